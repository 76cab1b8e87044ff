set_option maxHeartbeats 4000000 in
set_option maxRecDepth 100000 in
theorem c_X10_laysTimes {Z : Zt} (zo : Zok Z) (l : Launch) (D : va_G) (cy : Cy) (L0 : List Nat) (f0 : Nat → va_E) (a0 : Nat) (x1 : Int) (lx1 : -2147483648 ≤ x1) (ux1 : x1 ≤ 2147483647) (x2 : Int) (lx2 : -2147483648 ≤ x2) (ux2 : x2 ≤ 2147483647) (ad : Nat → Nat) (hs : MS cy L0 f0 a0 ad) (hv : MV f0 a0 ad) (b1 : 0 ≤ x1) (b2 : x1 < fI f0 a0 5) (w1 : 0 ≤ x2) (w2 : x2 ≤ 1) : Cv Z l yX10_laysTimes (Cond.code yX10_laysTimes cX10_laysTimes 10 none :: TB) ({ frames := 3, cells := 0, slots := 0, locals := 74 } : Room) 0 0 D (tq cy) [.ref a0, .int (iI x1), .int (iI x2)] L0 f0 (fun (L1 : List Nat) (f1 : Nat → va_E) => L0 = L1 ∧ MS cy L0 f1 a0 ad ∧ Kp a0 ad [11, 12, 13] [] f0 f1 ∧ (0 ≤ aI f1 (ad 13) x2 ∧ aI f1 (ad 13) x2 ≤ 36525 ∧ (∀ x : Int, 0 ≤ x → x ≠ x2 → aI f1 (ad 13) x = aI f0 (ad 13) x) ∧ LW (aI f1 (ad 11)) (36525 * x2) (aI f1 (ad 13) x2) 16)) := by
  refine Cv.enter (cc := cX10_laysTimes) (n := 10) rfl (plainFor_of_name (by decide)) (Nat.le_of_ble_eq_true rfl) ?_
  intro p e s m below meth c ls A hx hb hr hts hown hlocks hnm hml hK hA hAe hw hZ hl
  have hown : s.vm.findClass RX10 = some m.cls := hown
  have hl : lv_has ls 10 [(0, .ref a0), (1, .int (iI x1)), (2, .int (iI x2))] := hl
  have hN : ZN s := (zo.2.2.2.2 _ _ _ hZ).2
  have hE : Kp a0 ad [11, 12, 13] [] f0 f0 := Kp.refl _ _ _ _ _
  have rv := hv.row x1 b1 b2
  have ro := hv.at b1 b2
  have hbb : (0 : Int) ≤ 36525 * x2 := by omega
  refine lv_aload_n hx hb dX10_laysTimes_0 rfl (lv_at hl 0 rfl) ?_
  refine lv_iload_n hx hb dX10_laysTimes_1 rfl (lv_at hl 1 rfl) ?_
  refine lv_iload_n hx hb dX10_laysTimes_2 rfl (lv_at hl 2 rfl) ?_
  refine q_call_i hA hK hw (va_runV (As := [.int (iI x1), .int (iI x2)]) (rest := []) ⟨hx, hb, hml, hown, hts⟩ (c_X10_laysKeys_2 zo l D cy L0 f0 a0 x1 lx1 ux1 x2 lx2 ux2 ad hs (by omega) (by omega) (by omega) (by omega) (by omega) (by omega) (by omega) (by omega) (by omega) (by omega) (by omega) _) (cwV 2 hts (gT (inV (mr24 _ (List.mem_of_getElem? (i := 20) rfl)) (mr24 _ (List.mem_of_getElem? (i := 21) rfl)) (mr24 _ (List.mem_of_getElem? (i := 22) rfl)) (mr1 _ (List.mem_of_getElem? (i := 5) rfl)) (mr24 _ (List.mem_of_getElem? (i := 23) rfl)))) rfl rfl rfl (by decide +kernel) ⟨Nat.le_of_ble_eq_true rfl, Nat.le_of_ble_eq_true rfl⟩) (Wd.preV zo hA hZ hw hK hs.1 hs.2.1 rfl) rfl rfl hl.1 rfl (lv_room (Nat.le_of_ble_eq_true rfl)) dX10_laysTimes_3 ⟨Nat.le_of_ble_eq_true rfl, Nat.le_of_ble_eq_true rfl⟩) (fun x_1 L1 f_2 H locs lx_1 ux_1 ex_1 hw => ?_)
  obtain ⟨rfl, hs, hX, ex_1⟩ := ex_1
  have hE := hE.trans (hX.mono (rs' := [11, 12, 13]) (fs' := []) (by decide) (by decide))
  have Q4 : aI f_2 (ad 4) = aI f0 (ad 4) := funext fun x => hE.1 4 rfl (by decide) x
  have q0_f_2 : aI f_2 (ad 4) (44 * x1 + 1) = aI f0 (ad 4) (44 * x1 + 1) := hE.1 4 rfl (by decide) _
  have q1_f_2 : aI f_2 (ad 4) (44 * x1 + 11) = aI f0 (ad 4) (44 * x1 + 11) := hE.1 4 rfl (by decide) _
  obtain ⟨p3a, p3b, -, rr, ks, ko⟩ := ex_1
  have lt : LT (aI f0 (ad 4)) (aI f_2 (ad 12)) (aI f_2 (ad 11)) (44 * x1) (36525 * x2) x_1 0 0 := LT.init ro ks ko
  refine lv_istore_n (lv' := [(3, .int (iI x_1)), (0, .ref a0), (1, .int (iI x1)), (2, .int (iI x2))]) hx hb dX10_laysTimes_6 rfl hl (by decide) rfl (fun ls hl => ?_)
  refine q_ldc (n := 36525) hx hb hown (hts _ (List.mem_cons_of_mem _ (mr3 _ (List.mem_of_getElem? (i := 9) rfl)))) rfl dX10_laysTimes_7 ?_
  refine lv_iload_n hx hb dX10_laysTimes_9 rfl (lv_at hl 3 rfl) ?_
  first | refine q_imul hx hb dX10_laysTimes_10 ⟨by omega, by omega⟩ (fun x_3 lx_3 ux_3 ex_3 => ?_) | refine q_imulw hx hb dX10_laysTimes_10 (fun x_3 lx_3 ux_3 ex_3 => ?_)
  refine lv_istore (lv' := [(4, .int (iI x_3)), (3, .int (iI x_1)), (0, .ref a0), (1, .int (iI x1)), (2, .int (iI x2))]) hx hb dX10_laysTimes_11 hl (by decide) rfl (fun ls hl => ?_)
  refine q_iconst hx hb dX10_laysTimes_13 ?_
  refine lv_istore (lv' := [(5, .int (iI 0)), (4, .int (iI x_3)), (3, .int (iI x_1)), (0, .ref a0), (1, .int (iI x1)), (2, .int (iI x2))]) hx hb dX10_laysTimes_14 hl (by decide) rfl (fun ls hl => ?_)
  refine q_iconst hx hb dX10_laysTimes_16 ?_
  refine lv_istore (lv' := [(6, .int (iI 0)), (5, .int (iI 0)), (4, .int (iI x_3)), (3, .int (iI x_1)), (0, .ref a0), (1, .int (iI x1)), (2, .int (iI x2))]) hx hb dX10_laysTimes_17 hl (by decide) rfl (fun ls hl => ?_)
  have J19 : ∀ (n19 : Nat) (y5_19 : Int) (ly5_19 : -2147483648 ≤ y5_19) (uy5_19 : y5_19 ≤ 2147483647) (y6_19 : Int) (ly6_19 : -2147483648 ≤ y6_19) (uy6_19 : y6_19 ≤ 2147483647) (L : List Nat) (fw19 : Nat → va_E) (hs : MS cy L0 fw19 a0 ad) (hE : Kp a0 ad [11, 12, 13] [] f0 fw19) (i1 : 0 ≤ y6_19) (i2 : y6_19 ≤ x_1) (i3 : 0 ≤ y5_19) (i4 : y5_19 ≤ y6_19) (lt : LT (aI f0 (ad 4)) (aI fw19 (ad 12)) (aI fw19 (ad 11)) (44 * x1) (36525 * x2) x_1 y5_19 y6_19) (rr : ∀ x : Int, 0 ≤ x → x ≠ x2 → aI fw19 (ad 13) x = aI f0 (ad 13) x) (hn19 : ((2147483647 : Int) - y6_19).toNat < n19) (H : Heap) (locs : List Loc) (ls : Array Slot) (hw : Wd D A s.heap L0 fw19 H locs) (hl : lv_has ls 10 [(0, .ref a0), (1, .int (iI x1)), (2, .int (iI x2)), (3, .int (iI x_1)), (4, .int (iI x_3)), (5, .int (iI y5_19)), (6, .int (iI y6_19))]), W p l e ({ frames := 3, cells := 0, slots := 0, locals := 74 } : Room) s m ([.ref a0, .int (iI x1), .int (iI x2)] : List Value).toArray below meth c H locs (0 + 0) (0 + 0) (MQ below (Qv D (tq cy) L0 f0 s.heap.size (fun (L1 : List Nat) (f1 : Nat → va_E) => L0 = L1 ∧ MS cy L0 f1 a0 ad ∧ Kp a0 ad [11, 12, 13] [] f0 f1 ∧ (0 ≤ aI f1 (ad 13) x2 ∧ aI f1 (ad 13) x2 ≤ 36525 ∧ (∀ x : Int, 0 ≤ x → x ≠ x2 → aI f1 (ad 13) x = aI f0 (ad 13) x) ∧ LW (aI f1 (ad 11)) (36525 * x2) (aI f1 (ad 13) x2) 16))) ([.ref a0, .int (iI x1), .int (iI x2)] : List Value).toArray s 0 0 A) (F0 m 19 ls []) := by
    intro n19
    induction n19 with
    | zero => intro y5_19 ly5_19 uy5_19 y6_19 ly6_19 uy6_19 L fw19 hs hE i1 i2 i3 i4 lt rr hn19; exact absurd hn19 (Nat.not_lt_zero _)
    | succ n19 ih19 =>
      intro y5_19 ly5_19 uy5_19 y6_19 ly6_19 uy6_19 L fw19 hs hE i1 i2 i3 i4 lt rr hn19 H locs ls hw hl
      have Q4 : aI fw19 (ad 4) = aI f0 (ad 4) := funext fun x => hE.1 4 rfl (by decide) x
      have q0_fw19 : aI fw19 (ad 4) (44 * x1 + 1) = aI f0 (ad 4) (44 * x1 + 1) := hE.1 4 rfl (by decide) _
      have q1_fw19 : aI fw19 (ad 4) (44 * x1 + 11) = aI f0 (ad 4) (44 * x1 + 11) := hE.1 4 rfl (by decide) _
      refine lv_iload hx hb dX10_laysTimes_19 (lv_at hl 6 rfl) ?_
      refine lv_iload_n hx hb dX10_laysTimes_21 rfl (lv_at hl 3 rfl) ?_
      refine q_icmp_ge (tgt := 94) hx hb dX10_laysTimes_22 (by decide) ⟨ly6_19, uy6_19⟩ ⟨lx_1, ux_1⟩ (fun c22 => ?_) (fun c22 => ?_)
      · have ld := lt.done ro
        refine q_iconst hx hb dX10_laysTimes_94 ?_
        refine lv_istore (lv' := [(6, .int (iI 0)), (0, .ref a0), (1, .int (iI x1)), (2, .int (iI x2)), (3, .int (iI x_1)), (4, .int (iI x_3)), (5, .int (iI y5_19))]) hx hb dX10_laysTimes_95 hl (by decide) rfl (fun ls hl => ?_)
        have J97 : ∀ (n97 : Nat) (y5_97 : Int) (ly5_97 : -2147483648 ≤ y5_97) (uy5_97 : y5_97 ≤ 2147483647) (y6_97 : Int) (ly6_97 : -2147483648 ≤ y6_97) (uy6_97 : y6_97 ≤ 2147483647) (L : List Nat) (fw97 : Nat → va_E) (hs : MS cy L0 fw97 a0 ad) (hE : Kp a0 ad [11, 12, 13] [] f0 fw97) (i1 : 0 ≤ y6_97) (i2 : y6_97 ≤ aI f0 (ad 4) (44 * x1 + 11)) (i3 : 0 ≤ y5_97) (nb : y5_97 + aI f0 (ad 4) (44 * x1 + 11) ≤ 36525 + y6_97) (lw : LW (aI fw97 (ad 11)) (36525 * x2) y5_97 y6_97) (rr : ∀ x : Int, 0 ≤ x → x ≠ x2 → aI fw97 (ad 13) x = aI f0 (ad 13) x) (hn97 : ((2147483647 : Int) - y6_97).toNat < n97) (H : Heap) (locs : List Loc) (ls : Array Slot) (hw : Wd D A s.heap L0 fw97 H locs) (hl : lv_has ls 10 [(0, .ref a0), (1, .int (iI x1)), (2, .int (iI x2)), (4, .int (iI x_3)), (5, .int (iI y5_97)), (6, .int (iI y6_97))]), W p l e ({ frames := 3, cells := 0, slots := 0, locals := 74 } : Room) s m ([.ref a0, .int (iI x1), .int (iI x2)] : List Value).toArray below meth c H locs (0 + 0) (0 + 0) (MQ below (Qv D (tq cy) L0 f0 s.heap.size (fun (L1 : List Nat) (f1 : Nat → va_E) => L0 = L1 ∧ MS cy L0 f1 a0 ad ∧ Kp a0 ad [11, 12, 13] [] f0 f1 ∧ (0 ≤ aI f1 (ad 13) x2 ∧ aI f1 (ad 13) x2 ≤ 36525 ∧ (∀ x : Int, 0 ≤ x → x ≠ x2 → aI f1 (ad 13) x = aI f0 (ad 13) x) ∧ LW (aI f1 (ad 11)) (36525 * x2) (aI f1 (ad 13) x2) 16))) ([.ref a0, .int (iI x1), .int (iI x2)] : List Value).toArray s 0 0 A) (F0 m 97 ls []) := by
          intro n97
          induction n97 with
          | zero => intro y5_97 ly5_97 uy5_97 y6_97 ly6_97 uy6_97 L fw97 hs hE i1 i2 i3 nb lw rr hn97; exact absurd hn97 (Nat.not_lt_zero _)
          | succ n97 ih97 =>
            intro y5_97 ly5_97 uy5_97 y6_97 ly6_97 uy6_97 L fw97 hs hE i1 i2 i3 nb lw rr hn97 H locs ls hw hl
            have Q4 : aI fw97 (ad 4) = aI f0 (ad 4) := funext fun x => hE.1 4 rfl (by decide) x
            have q0_fw97 : aI fw97 (ad 4) (44 * x1 + 1) = aI f0 (ad 4) (44 * x1 + 1) := hE.1 4 rfl (by decide) _
            have q1_fw97 : aI fw97 (ad 4) (44 * x1 + 11) = aI f0 (ad 4) (44 * x1 + 11) := hE.1 4 rfl (by decide) _
            refine lv_iload hx hb dX10_laysTimes_97 (lv_at hl 5 rfl) ?_
            refine lv_aload_n hx hb dX10_laysTimes_99 rfl (lv_at hl 0 rfl) ?_
            refine lv_iload_n hx hb dX10_laysTimes_100 rfl (lv_at hl 1 rfl) ?_
            refine q_bipush hx hb dX10_laysTimes_101 rfl ?_
            refine q_call_i hA hK hw (va_runV (As := [.int (iI x1), .int (iI 11)]) (rest := [.int (iI y6_97)]) ⟨hx, hb, hml, hown, hts⟩ (c_X10_get zo l D cy L0 fw97 a0 x1 lx1 ux1 11 (by decide) (by decide) ad hs (by omega) (by omega) (by omega) (by omega) _) (cwV 2 hts (gT (inV (mr25 _ (List.mem_of_getElem? (i := 0) rfl)) (mr25 _ (List.mem_of_getElem? (i := 1) rfl)) (mr25 _ (List.mem_of_getElem? (i := 2) rfl)) (mr1 _ (List.mem_of_getElem? (i := 5) rfl)) (mr25 _ (List.mem_of_getElem? (i := 3) rfl)))) rfl rfl rfl (by decide +kernel) ⟨Nat.le_of_ble_eq_true rfl, Nat.le_of_ble_eq_true rfl⟩) (Wd.preV zo hA hZ hw hK hs.1 hs.2.1 rfl) rfl rfl hl.1 rfl (lv_room (Nat.le_of_ble_eq_true rfl)) dX10_laysTimes_103 ⟨Nat.le_of_ble_eq_true rfl, Nat.le_of_ble_eq_true rfl⟩) (fun x_4 L1 f1 H locs lx_4 ux_4 ex_4 hw => ?_)
            obtain ⟨rfl, rfl, ex_4⟩ := ex_4
            refine q_icmp_ge (tgt := 290) hx hb dX10_laysTimes_106 (by decide) ⟨ly6_97, uy6_97⟩ ⟨lx_4, ux_4⟩ (fun c106 => ?_) (fun c106 => ?_)
            · refine lv_aload_n hx hb dX10_laysTimes_290 rfl (lv_at hl 0 rfl) ?_
              refine q_getr (ci := 8) (C := RX10) (T := TX10) (N := 26) hx hb hts (fun w h => List.mem_cons_of_mem _ (mfX100 w h)) hown hK hw hs.1 hs.2.1 rfl 13 (by decide) (hts _ (List.mem_cons_of_mem _ (mr3 _ (List.mem_of_getElem? (i := 21) rfl)))) (fun _ h => h) rfl (hs.2.2.1 13 rfl).1 dX10_laysTimes_291 ?_
              refine lv_iload_n hx hb dX10_laysTimes_294 rfl (lv_at hl 2 rfl) ?_
              refine lv_iload hx hb dX10_laysTimes_295 (lv_at hl 4 rfl) ?_
              refine q_iast hx hb hK hw (hs.2.2.1 13 rfl).2.1 1 (hs.2.2.1 13 rfl).2.2 rfl ⟨lx2, ux2⟩ (by omega) (by show _ < ((2 : Nat) : Int); omega) dX10_laysTimes_297 (fun H locs hw => ?_)
              obtain ⟨f_5, ef_5⟩ : ∃ g : Nat → va_E, g = aU fw97 (ad 13) x2 (iI y5_97) := ⟨_, rfl⟩
              have hE := hE.trans (show Kp a0 ad [11, 12, 13] [] fw97 f_5 by rw [ef_5]; exact Kp_aU hs rfl (by decide))
              have hs_ := hs
              have hs : MS cy L0 f_5 a0 ad := by rw [ef_5]; exact MS_aU hs rfl
              rw [← ef_5] at hw
              have Q4 : aI f_5 (ad 4) = aI f0 (ad 4) := funext fun x => hE.1 4 rfl (by decide) x
              have q0_f_5 : aI f_5 (ad 4) (44 * x1 + 1) = aI f0 (ad 4) (44 * x1 + 1) := hE.1 4 rfl (by decide) _
              have q1_f_5 : aI f_5 (ad 4) (44 * x1 + 11) = aI f0 (ad 4) (44 * x1 + 11) := hE.1 4 rfl (by decide) _
              have r1 : aI f_5 (ad 13) x2 = y5_97 := by rw [ef_5]; exact hs_.aI_self rfl ⟨by omega, by omega⟩
              have r2 : ∀ x : Int, 0 ≤ x → x ≠ x2 → aI f_5 (ad 13) x = aI f0 (ad 13) x := fun x q0 q1 => Eq.trans (by rw [ef_5]; exact hs_.aI_nj rfl (by omega) q0 q1) (rr x q0 q1)
              have lwz : LW (aI f_5 (ad 11)) (36525 * x2) y5_97 16 := (lw.mono (by omega)).same (funext fun x => by rw [ef_5]; exact hs_.aI_ne rfl rfl (by decide) _)
              exact q_ret_v hx hb hr hlocks hK hAe hw (Nat.le_of_ble_eq_true rfl) (Nat.le_of_ble_eq_true rfl) dX10_laysTimes_298 (by exact ⟨rfl, hs, hE, by rw [r1]; omega, by rw [r1]; omega, r2, by rw [r1]; exact lwz⟩)
            · refine lv_aload_n hx hb dX10_laysTimes_109 rfl (lv_at hl 0 rfl) ?_
              refine lv_iload_n hx hb dX10_laysTimes_110 rfl (lv_at hl 1 rfl) ?_
              refine q_bipush hx hb dX10_laysTimes_111 rfl ?_
              refine q_iconst hx hb dX10_laysTimes_113 ?_
              refine lv_iload hx hb dX10_laysTimes_114 (lv_at hl 5 rfl) ?_
              first | refine q_imul hx hb dX10_laysTimes_116 ⟨by omega, by omega⟩ (fun x_6 lx_6 ux_6 ex_6 => ?_) | refine q_imulw hx hb dX10_laysTimes_116 (fun x_6 lx_6 ux_6 ex_6 => ?_)
              first | refine q_iadd hx hb dX10_laysTimes_117 ⟨by omega, by omega⟩ (fun x_7 lx_7 ux_7 ex_7 => ?_) | refine q_iaddw hx hb dX10_laysTimes_117 (fun x_7 lx_7 ux_7 ex_7 => ?_)
              refine q_iconst hx hb dX10_laysTimes_118 ?_
              first | refine q_iadd hx hb dX10_laysTimes_119 ⟨by omega, by omega⟩ (fun x_8 lx_8 ux_8 ex_8 => ?_) | refine q_iaddw hx hb dX10_laysTimes_119 (fun x_8 lx_8 ux_8 ex_8 => ?_)
              refine q_call_i hA hK hw (va_runV (As := [.int (iI x1), .int (iI x_8)]) (rest := []) ⟨hx, hb, hml, hown, hts⟩ (c_X10_get zo l D cy L0 fw97 a0 x1 lx1 ux1 x_8 lx_8 ux_8 ad hs (by omega) (by omega) (by omega) (by omega) _) (cwV 2 hts (gT (inV (mr25 _ (List.mem_of_getElem? (i := 0) rfl)) (mr25 _ (List.mem_of_getElem? (i := 1) rfl)) (mr25 _ (List.mem_of_getElem? (i := 2) rfl)) (mr1 _ (List.mem_of_getElem? (i := 5) rfl)) (mr25 _ (List.mem_of_getElem? (i := 3) rfl)))) rfl rfl rfl (by decide +kernel) ⟨Nat.le_of_ble_eq_true rfl, Nat.le_of_ble_eq_true rfl⟩) (Wd.preV zo hA hZ hw hK hs.1 hs.2.1 rfl) rfl rfl hl.1 rfl (lv_room (Nat.le_of_ble_eq_true rfl)) dX10_laysTimes_120 ⟨Nat.le_of_ble_eq_true rfl, Nat.le_of_ble_eq_true rfl⟩) (fun x_9 L1 f1 H locs lx_9 ux_9 ex_9 hw => ?_)
              obtain ⟨rfl, rfl, ex_9⟩ := ex_9
              have e120 : x_9 ≤ 52595999 := by have q := (ro.2.1 y6_97 (by omega) (by omega)).2.2.2.2; have e9 : x_9 = aI f0 (ad 4) (44 * x1 + 13 + 2 * y6_97) := ex_9.trans ((congrFun Q4 _).trans (aI_cg (by omega))); omega
              refine lv_istore (lv' := [(7, .int (iI x_9)), (0, .ref a0), (1, .int (iI x1)), (2, .int (iI x2)), (4, .int (iI x_3)), (5, .int (iI y5_97)), (6, .int (iI y6_97))]) hx hb dX10_laysTimes_123 hl (by decide) rfl (fun ls hl => ?_)
              refine lv_aload_n hx hb dX10_laysTimes_125 rfl (lv_at hl 1 rfl) ?_
              refine lv_iload_n hx hb dX10_laysTimes_126 rfl (lv_at hl 2 rfl) ?_
              refine q_bipush hx hb dX10_laysTimes_127 rfl ?_
              refine q_iconst hx hb dX10_laysTimes_129 ?_
              refine lv_iload hx hb dX10_laysTimes_130 (lv_at hl 6 rfl) ?_
              first | refine q_imul hx hb dX10_laysTimes_132 ⟨by omega, by omega⟩ (fun x_10 lx_10 ux_10 ex_10 => ?_) | refine q_imulw hx hb dX10_laysTimes_132 (fun x_10 lx_10 ux_10 ex_10 => ?_)
              first | refine q_iadd hx hb dX10_laysTimes_133 ⟨by omega, by omega⟩ (fun x_11 lx_11 ux_11 ex_11 => ?_) | refine q_iaddw hx hb dX10_laysTimes_133 (fun x_11 lx_11 ux_11 ex_11 => ?_)
              refine q_call_i hA hK hw (va_runV (As := [.int (iI x1), .int (iI x_11)]) (rest := []) ⟨hx, hb, hml, hown, hts⟩ (c_X10_get zo l D cy L0 fw97 a0 x1 lx1 ux1 x_11 lx_11 ux_11 ad hs (by omega) (by omega) (by omega) (by omega) _) (cwV 2 hts (gT (inV (mr25 _ (List.mem_of_getElem? (i := 0) rfl)) (mr25 _ (List.mem_of_getElem? (i := 1) rfl)) (mr25 _ (List.mem_of_getElem? (i := 2) rfl)) (mr1 _ (List.mem_of_getElem? (i := 5) rfl)) (mr25 _ (List.mem_of_getElem? (i := 3) rfl)))) rfl rfl rfl (by decide +kernel) ⟨Nat.le_of_ble_eq_true rfl, Nat.le_of_ble_eq_true rfl⟩) (Wd.preV zo hA hZ hw hK hs.1 hs.2.1 rfl) rfl rfl hl.1 rfl (lv_room (Nat.le_of_ble_eq_true rfl)) dX10_laysTimes_134 ⟨Nat.le_of_ble_eq_true rfl, Nat.le_of_ble_eq_true rfl⟩) (fun x_12 L1 f1 H locs lx_12 ux_12 ex_12 hw => ?_)
              obtain ⟨rfl, rfl, ex_12⟩ := ex_12
              refine lv_istore (lv' := [(8, .int (iI x_12)), (7, .int (iI x_9)), (0, .ref a0), (1, .int (iI x1)), (2, .int (iI x2)), (4, .int (iI x_3)), (5, .int (iI y5_97)), (6, .int (iI y6_97))]) hx hb dX10_laysTimes_137 hl (by decide) rfl (fun ls hl => ?_)
              refine lv_iload hx hb dX10_laysTimes_139 (lv_at hl 1 rfl) ?_
              have J284 : ∀ (z5_284 : Int) (lz5_284 : -2147483648 ≤ z5_284) (uz5_284 : z5_284 ≤ 2147483647) (L : List Nat) (fw284 : Nat → va_E) (hs : MS cy L0 fw284 a0 ad) (hE : Kp a0 ad [11, 12, 13] [] f0 fw284) (i3 : 0 ≤ z5_284) (nb : z5_284 + aI f0 (ad 4) (44 * x1 + 11) ≤ 36525 + y6_97 + 1) (lw : LW (aI fw284 (ad 11)) (36525 * x2) z5_284 (y6_97 + 1)) (rr : ∀ x : Int, 0 ≤ x → x ≠ x2 → aI fw284 (ad 13) x = aI f0 (ad 13) x) (H : Heap) (locs : List Loc) (ls : Array Slot) (hw : Wd D A s.heap L0 fw284 H locs) (hl : lv_has ls 10 [(0, .ref a0), (1, .int (iI x1)), (2, .int (iI x2)), (4, .int (iI x_3)), (5, .int (iI z5_284)), (6, .int (iI y6_97))]), W p l e ({ frames := 3, cells := 0, slots := 0, locals := 74 } : Room) s m ([.ref a0, .int (iI x1), .int (iI x2)] : List Value).toArray below meth c H locs (0 + 0 + 0 + 0 + 0) (0 + 0 + 0 + 0 + 0) (MQ below (Qv D (tq cy) L0 f0 s.heap.size (fun (L1 : List Nat) (f1 : Nat → va_E) => L0 = L1 ∧ MS cy L0 f1 a0 ad ∧ Kp a0 ad [11, 12, 13] [] f0 f1 ∧ (0 ≤ aI f1 (ad 13) x2 ∧ aI f1 (ad 13) x2 ≤ 36525 ∧ (∀ x : Int, 0 ≤ x → x ≠ x2 → aI f1 (ad 13) x = aI f0 (ad 13) x) ∧ LW (aI f1 (ad 11)) (36525 * x2) (aI f1 (ad 13) x2) 16))) ([.ref a0, .int (iI x1), .int (iI x2)] : List Value).toArray s 0 0 A) (F0 m 284 ls []) := by
                intro z5_284 lz5_284 uz5_284 L fw284 hs hE i3 nb lw rr H locs ls hw hl
                have Q4 : aI fw284 (ad 4) = aI f0 (ad 4) := funext fun x => hE.1 4 rfl (by decide) x
                have q0_fw284 : aI fw284 (ad 4) (44 * x1 + 1) = aI f0 (ad 4) (44 * x1 + 1) := hE.1 4 rfl (by decide) _
                have q1_fw284 : aI fw284 (ad 4) (44 * x1 + 11) = aI f0 (ad 4) (44 * x1 + 11) := hE.1 4 rfl (by decide) _
                obtain ⟨x_13, lx_13, ux_13, hx_13, ex_13⟩ := q_inc y6_97 (1)
                try (replace ex_13 : x_13 = y6_97 + (1) := by omega)
                refine lv_iinc (v := iI x_13) (lv' := [(6, .int (iI x_13)), (0, .ref a0), (1, .int (iI x1)), (2, .int (iI x2)), (4, .int (iI x_3)), (5, .int (iI z5_284))]) hx hb dX10_laysTimes_284 hl (k := 5) rfl hx_13 (by decide) rfl (fun ls hl => ?_)
                refine lv_goto (tgt := 97) hx hb dX10_laysTimes_287 (by decide) ?_
                exact ih97 z5_284 lz5_284 uz5_284 x_13 lx_13 ux_13 L0 fw284 hs hE (by omega) (by omega) (by omega) (by omega) (by first | exact lw.to (by omega) (by omega) | exact ld.2.2.to (by omega) (by omega)) (by exact rr) (by omega) _ _ _ hw (lv_sub hl [1, 2, 3, 4, 5, 0] rfl)
              refine q_if_ge (tgt := 147) hx hb dX10_laysTimes_141 (by decide) ⟨lx_9, ux_9⟩ (fun c141 => ?_) (fun c141 => ?_)
              · refine lv_iload hx hb dX10_laysTimes_147 (lv_at hl 6 rfl) ?_
                refine lv_istore (lv' := [(9, .int (iI y5_97)), (8, .int (iI x_12)), (7, .int (iI x_9)), (0, .ref a0), (1, .int (iI x1)), (2, .int (iI x2)), (4, .int (iI x_3)), (5, .int (iI y5_97)), (6, .int (iI y6_97))]) hx hb dX10_laysTimes_149 hl (by decide) rfl (fun ls hl => ?_)
                have J151 : ∀ (n151 : Nat) (y9_151 : Int) (ly9_151 : -2147483648 ≤ y9_151) (uy9_151 : y9_151 ≤ 2147483647) (L : List Nat) (fw151 : Nat → va_E) (hs : MS cy L0 fw151 a0 ad) (hE : Kp a0 ad [11, 12, 13] [] f0 fw151) (i9 : 0 ≤ y9_151) (i8 : y9_151 ≤ y5_97) (lx : LX (aI fw151 (ad 11)) (36525 * x2) y5_97 y9_151 y6_97) (rr : ∀ x : Int, 0 ≤ x → x ≠ x2 → aI fw151 (ad 13) x = aI f0 (ad 13) x) (hn151 : (y9_151 + (2147483648 : Int)).toNat < n151) (H : Heap) (locs : List Loc) (ls : Array Slot) (hw : Wd D A s.heap L0 fw151 H locs) (hl : lv_has ls 10 [(0, .ref a0), (1, .int (iI x1)), (2, .int (iI x2)), (4, .int (iI x_3)), (5, .int (iI y5_97)), (6, .int (iI y6_97)), (7, .int (iI x_9)), (8, .int (iI x_12)), (9, .int (iI y9_151))]), W p l e ({ frames := 3, cells := 0, slots := 0, locals := 74 } : Room) s m ([.ref a0, .int (iI x1), .int (iI x2)] : List Value).toArray below meth c H locs (0 + 0 + 0 + 0 + 0) (0 + 0 + 0 + 0 + 0) (MQ below (Qv D (tq cy) L0 f0 s.heap.size (fun (L1 : List Nat) (f1 : Nat → va_E) => L0 = L1 ∧ MS cy L0 f1 a0 ad ∧ Kp a0 ad [11, 12, 13] [] f0 f1 ∧ (0 ≤ aI f1 (ad 13) x2 ∧ aI f1 (ad 13) x2 ≤ 36525 ∧ (∀ x : Int, 0 ≤ x → x ≠ x2 → aI f1 (ad 13) x = aI f0 (ad 13) x) ∧ LW (aI f1 (ad 11)) (36525 * x2) (aI f1 (ad 13) x2) 16))) ([.ref a0, .int (iI x1), .int (iI x2)] : List Value).toArray s 0 0 A) (F0 m 151 ls []) := by
                  intro n151
                  induction n151 with
                  | zero => intro y9_151 ly9_151 uy9_151 L fw151 hs hE i9 i8 lx rr hn151; exact absurd hn151 (Nat.not_lt_zero _)
                  | succ n151 ih151 =>
                    intro y9_151 ly9_151 uy9_151 L fw151 hs hE i9 i8 lx rr hn151 H locs ls hw hl
                    have Q4 : aI fw151 (ad 4) = aI f0 (ad 4) := funext fun x => hE.1 4 rfl (by decide) x
                    have q0_fw151 : aI fw151 (ad 4) (44 * x1 + 1) = aI f0 (ad 4) (44 * x1 + 1) := hE.1 4 rfl (by decide) _
                    have q1_fw151 : aI fw151 (ad 4) (44 * x1 + 11) = aI f0 (ad 4) (44 * x1 + 11) := hE.1 4 rfl (by decide) _
                    refine lv_iload hx hb dX10_laysTimes_151 (lv_at hl 8 rfl) ?_
                    have J257 : ∀ (H : Heap) (locs : List Loc) (ls : Array Slot) (hw : Wd D A s.heap L0 fw151 H locs) (hl : lv_has ls 10 [(0, .ref a0), (1, .int (iI x1)), (2, .int (iI x2)), (4, .int (iI x_3)), (5, .int (iI y5_97)), (6, .int (iI y6_97)), (7, .int (iI x_9)), (8, .int (iI x_12)), (9, .int (iI y9_151))]), W p l e ({ frames := 3, cells := 0, slots := 0, locals := 74 } : Room) s m ([.ref a0, .int (iI x1), .int (iI x2)] : List Value).toArray below meth c H locs (0 + 0 + 0 + 0 + 0) (0 + 0 + 0 + 0 + 0) (MQ below (Qv D (tq cy) L0 f0 s.heap.size (fun (L1 : List Nat) (f1 : Nat → va_E) => L0 = L1 ∧ MS cy L0 f1 a0 ad ∧ Kp a0 ad [11, 12, 13] [] f0 f1 ∧ (0 ≤ aI f1 (ad 13) x2 ∧ aI f1 (ad 13) x2 ≤ 36525 ∧ (∀ x : Int, 0 ≤ x → x ≠ x2 → aI f1 (ad 13) x = aI f0 (ad 13) x) ∧ LW (aI f1 (ad 11)) (36525 * x2) (aI f1 (ad 13) x2) 16))) ([.ref a0, .int (iI x1), .int (iI x2)] : List Value).toArray s 0 0 A) (F0 m 257 ls []) := by
                      intro H locs ls hw hl
                      have Q4 : aI fw151 (ad 4) = aI f0 (ad 4) := funext fun x => hE.1 4 rfl (by decide) x
                      have q0_fw151 : aI fw151 (ad 4) (44 * x1 + 1) = aI f0 (ad 4) (44 * x1 + 1) := hE.1 4 rfl (by decide) _
                      have q1_fw151 : aI fw151 (ad 4) (44 * x1 + 11) = aI f0 (ad 4) (44 * x1 + 11) := hE.1 4 rfl (by decide) _
                      refine lv_aload_n hx hb dX10_laysTimes_257 rfl (lv_at hl 0 rfl) ?_
                      refine q_getr (ci := 8) (C := RX10) (T := TX10) (N := 26) hx hb hts (fun w h => List.mem_cons_of_mem _ (mfX100 w h)) hown hK hw hs.1 hs.2.1 rfl 11 (by decide) (hts _ (List.mem_cons_of_mem _ (mr3 _ (List.mem_of_getElem? (i := 19) rfl)))) (fun _ h => h) rfl (hs.2.2.1 11 rfl).1 dX10_laysTimes_258 ?_
                      refine lv_iload hx hb dX10_laysTimes_261 (lv_at hl 3 rfl) ?_
                      refine lv_iload hx hb dX10_laysTimes_263 (lv_at hl 8 rfl) ?_
                      first | refine q_iadd hx hb dX10_laysTimes_265 ⟨by omega, by omega⟩ (fun x_14 lx_14 ux_14 ex_14 => ?_) | refine q_iaddw hx hb dX10_laysTimes_265 (fun x_14 lx_14 ux_14 ex_14 => ?_)
                      refine lv_iload hx hb dX10_laysTimes_266 (lv_at hl 6 rfl) ?_
                      refine q_iast hx hb hK hw (hs.2.2.1 11 rfl).2.1 1 (hs.2.2.1 11 rfl).2.2 rfl ⟨lx_14, ux_14⟩ (by omega) (by show _ < ((73050 : Nat) : Int); omega) dX10_laysTimes_268 (fun H locs hw => ?_)
                      obtain ⟨f_15, ef_15⟩ : ∃ g : Nat → va_E, g = aU fw151 (ad 11) x_14 (iI x_9) := ⟨_, rfl⟩
                      have hE := hE.trans (show Kp a0 ad [11, 12, 13] [] fw151 f_15 by rw [ef_15]; exact Kp_aU hs rfl (by decide))
                      have hs_ := hs
                      have hs : MS cy L0 f_15 a0 ad := by rw [ef_15]; exact MS_aU hs rfl
                      rw [← ef_15] at hw
                      have Q4 : aI f_15 (ad 4) = aI f0 (ad 4) := funext fun x => hE.1 4 rfl (by decide) x
                      have q0_f_15 : aI f_15 (ad 4) (44 * x1 + 1) = aI f0 (ad 4) (44 * x1 + 1) := hE.1 4 rfl (by decide) _
                      have q1_f_15 : aI f_15 (ad 4) (44 * x1 + 11) = aI f0 (ad 4) (44 * x1 + 11) := hE.1 4 rfl (by decide) _
                      have lw' : LW (aI f_15 (ad 11)) (36525 * x2) (y5_97 + 1) (y6_97 + 1) := lx.fill (t := x_9) (by omega) hbb rfl rfl ((aI_cg (show 36525 * x2 + y9_151 = x_14 by omega)).trans (by rw [ef_15]; exact hs_.aI_self rfl ⟨by omega, by omega⟩)) (by omega) (by omega) (fun x q0 q1 => by rw [ef_15]; exact hs_.aI_nj rfl (by omega) q0 (by omega))
                      have rr : ∀ x : Int, 0 ≤ x → x ≠ x2 → aI f_15 (ad 13) x = aI f0 (ad 13) x := fun x q0 q1 => Eq.trans (by rw [ef_15]; exact hs_.aI_ne rfl rfl (by decide) _) (rr x q0 q1)
                      refine lv_aload_n hx hb dX10_laysTimes_269 rfl (lv_at hl 0 rfl) ?_
                      refine q_getr (ci := 8) (C := RX10) (T := TX10) (N := 26) hx hb hts (fun w h => List.mem_cons_of_mem _ (mfX100 w h)) hown hK hw hs.1 hs.2.1 rfl 12 (by decide) (hts _ (List.mem_cons_of_mem _ (mr3 _ (List.mem_of_getElem? (i := 20) rfl)))) (fun _ h => h) rfl (hs.2.2.1 12 rfl).1 dX10_laysTimes_270 ?_
                      refine lv_iload hx hb dX10_laysTimes_273 (lv_at hl 3 rfl) ?_
                      refine lv_iload hx hb dX10_laysTimes_275 (lv_at hl 8 rfl) ?_
                      first | refine q_iadd hx hb dX10_laysTimes_277 ⟨by omega, by omega⟩ (fun x_16 lx_16 ux_16 ex_16 => ?_) | refine q_iaddw hx hb dX10_laysTimes_277 (fun x_16 lx_16 ux_16 ex_16 => ?_)
                      refine lv_iload hx hb dX10_laysTimes_278 (lv_at hl 7 rfl) ?_
                      refine q_iast hx hb hK hw (hs.2.2.1 12 rfl).2.1 1 (hs.2.2.1 12 rfl).2.2 rfl ⟨lx_16, ux_16⟩ (by omega) (by show _ < ((73050 : Nat) : Int); omega) dX10_laysTimes_280 (fun H locs hw => ?_)
                      obtain ⟨f_17, ef_17⟩ : ∃ g : Nat → va_E, g = aU f_15 (ad 12) x_16 (iI x_12) := ⟨_, rfl⟩
                      have hE := hE.trans (show Kp a0 ad [11, 12, 13] [] f_15 f_17 by rw [ef_17]; exact Kp_aU hs rfl (by decide))
                      have hs_ := hs
                      have hs : MS cy L0 f_17 a0 ad := by rw [ef_17]; exact MS_aU hs rfl
                      rw [← ef_17] at hw
                      have Q4 : aI f_17 (ad 4) = aI f0 (ad 4) := funext fun x => hE.1 4 rfl (by decide) x
                      have q0_f_17 : aI f_17 (ad 4) (44 * x1 + 1) = aI f0 (ad 4) (44 * x1 + 1) := hE.1 4 rfl (by decide) _
                      have q1_f_17 : aI f_17 (ad 4) (44 * x1 + 11) = aI f0 (ad 4) (44 * x1 + 11) := hE.1 4 rfl (by decide) _
                      have lw' : LW (aI f_17 (ad 11)) (36525 * x2) (y5_97 + 1) (y6_97 + 1) := lw'.same (funext fun x => by rw [ef_17]; exact hs_.aI_ne rfl rfl (by decide) _)
                      have rr : ∀ x : Int, 0 ≤ x → x ≠ x2 → aI f_17 (ad 13) x = aI f0 (ad 13) x := fun x q0 q1 => Eq.trans (by rw [ef_17]; exact hs_.aI_ne rfl rfl (by decide) _) (rr x q0 q1)
                      obtain ⟨x_18, lx_18, ux_18, hx_18, ex_18⟩ := q_inc y5_97 (1)
                      try (replace ex_18 : x_18 = y5_97 + (1) := by omega)
                      refine lv_iinc (v := iI x_18) (lv' := [(5, .int (iI x_18)), (0, .ref a0), (1, .int (iI x1)), (2, .int (iI x2)), (4, .int (iI x_3)), (6, .int (iI y6_97)), (7, .int (iI x_9)), (8, .int (iI x_12)), (9, .int (iI y9_151))]) hx hb dX10_laysTimes_281 hl (k := 4) rfl hx_18 (by decide) rfl (fun ls hl => ?_)
                      exact J284 x_18 lx_18 ux_18 L0 f_17 hs hE (by omega) (by omega) (by first | exact lw.mono (by omega) | exact lw'.to (by omega) (by omega)) (by exact rr) _ _ _ hw (lv_sub hl [1, 2, 3, 4, 0, 5] rfl)
                    refine q_if_le (tgt := 257) hx hb dX10_laysTimes_153 (by decide) ⟨ly9_151, uy9_151⟩ (fun c153 => ?_) (fun c153 => ?_)
                    · exact J257 _ _ _ hw (lv_sub hl [0, 1, 2, 3, 4, 5, 6, 7, 8] rfl)
                    · refine lv_aload_n hx hb dX10_laysTimes_156 rfl (lv_at hl 0 rfl) ?_
                      refine q_getr (ci := 8) (C := RX10) (T := TX10) (N := 26) hx hb hts (fun w h => List.mem_cons_of_mem _ (mfX100 w h)) hown hK hw hs.1 hs.2.1 rfl 11 (by decide) (hts _ (List.mem_cons_of_mem _ (mr3 _ (List.mem_of_getElem? (i := 19) rfl)))) (fun _ h => h) rfl (hs.2.2.1 11 rfl).1 dX10_laysTimes_157 ?_
                      refine lv_iload hx hb dX10_laysTimes_160 (lv_at hl 3 rfl) ?_
                      refine lv_iload hx hb dX10_laysTimes_162 (lv_at hl 8 rfl) ?_
                      first | refine q_iadd hx hb dX10_laysTimes_164 ⟨by omega, by omega⟩ (fun x_19 lx_19 ux_19 ex_19 => ?_) | refine q_iaddw hx hb dX10_laysTimes_164 (fun x_19 lx_19 ux_19 ex_19 => ?_)
                      refine q_iconst hx hb dX10_laysTimes_165 ?_
                      first | refine q_isub hx hb dX10_laysTimes_166 ⟨by omega, by omega⟩ (fun x_20 lx_20 ux_20 ex_20 => ?_) | refine q_isubw hx hb dX10_laysTimes_166 (fun x_20 lx_20 ux_20 ex_20 => ?_)
                      refine q_iald hx hb hK hw (hs.2.2.1 11 rfl).2.1 1 (hs.2.2.1 11 rfl).2.2 rfl ⟨lx_20, ux_20⟩ (by omega) (by show _ < ((73050 : Nat) : Int); omega) dX10_laysTimes_167 (fun x_21 lx_21 ux_21 ex_21 => ?_)
                      refine lv_iload hx hb dX10_laysTimes_168 (lv_at hl 6 rfl) ?_
                      have J207 : ∀ (H : Heap) (locs : List Loc) (ls : Array Slot) (hw : Wd D A s.heap L0 fw151 H locs) (hl : lv_has ls 10 [(0, .ref a0), (1, .int (iI x1)), (2, .int (iI x2)), (4, .int (iI x_3)), (5, .int (iI y5_97)), (6, .int (iI y6_97)), (7, .int (iI x_9)), (8, .int (iI x_12)), (9, .int (iI y9_151))]), W p l e ({ frames := 3, cells := 0, slots := 0, locals := 74 } : Room) s m ([.ref a0, .int (iI x1), .int (iI x2)] : List Value).toArray below meth c H locs (0 + 0 + 0 + 0 + 0) (0 + 0 + 0 + 0 + 0) (MQ below (Qv D (tq cy) L0 f0 s.heap.size (fun (L1 : List Nat) (f1 : Nat → va_E) => L0 = L1 ∧ MS cy L0 f1 a0 ad ∧ Kp a0 ad [11, 12, 13] [] f0 f1 ∧ (0 ≤ aI f1 (ad 13) x2 ∧ aI f1 (ad 13) x2 ≤ 36525 ∧ (∀ x : Int, 0 ≤ x → x ≠ x2 → aI f1 (ad 13) x = aI f0 (ad 13) x) ∧ LW (aI f1 (ad 11)) (36525 * x2) (aI f1 (ad 13) x2) 16))) ([.ref a0, .int (iI x1), .int (iI x2)] : List Value).toArray s 0 0 A) (F0 m 207 ls []) := by
                        intro H locs ls hw hl
                        have Q4 : aI fw151 (ad 4) = aI f0 (ad 4) := funext fun x => hE.1 4 rfl (by decide) x
                        have q0_fw151 : aI fw151 (ad 4) (44 * x1 + 1) = aI f0 (ad 4) (44 * x1 + 1) := hE.1 4 rfl (by decide) _
                        have q1_fw151 : aI fw151 (ad 4) (44 * x1 + 11) = aI f0 (ad 4) (44 * x1 + 11) := hE.1 4 rfl (by decide) _
                        refine lv_aload_n hx hb dX10_laysTimes_207 rfl (lv_at hl 0 rfl) ?_
                        refine q_getr (ci := 8) (C := RX10) (T := TX10) (N := 26) hx hb hts (fun w h => List.mem_cons_of_mem _ (mfX100 w h)) hown hK hw hs.1 hs.2.1 rfl 11 (by decide) (hts _ (List.mem_cons_of_mem _ (mr3 _ (List.mem_of_getElem? (i := 19) rfl)))) (fun _ h => h) rfl (hs.2.2.1 11 rfl).1 dX10_laysTimes_208 ?_
                        refine lv_iload hx hb dX10_laysTimes_211 (lv_at hl 3 rfl) ?_
                        refine lv_iload hx hb dX10_laysTimes_213 (lv_at hl 8 rfl) ?_
                        first | refine q_iadd hx hb dX10_laysTimes_215 ⟨by omega, by omega⟩ (fun x_22 lx_22 ux_22 ex_22 => ?_) | refine q_iaddw hx hb dX10_laysTimes_215 (fun x_22 lx_22 ux_22 ex_22 => ?_)
                        refine lv_aload_n hx hb dX10_laysTimes_216 rfl (lv_at hl 0 rfl) ?_
                        refine q_getr (ci := 8) (C := RX10) (T := TX10) (N := 26) hx hb hts (fun w h => List.mem_cons_of_mem _ (mfX100 w h)) hown hK hw hs.1 hs.2.1 rfl 11 (by decide) (hts _ (List.mem_cons_of_mem _ (mr3 _ (List.mem_of_getElem? (i := 19) rfl)))) (fun _ h => h) rfl (hs.2.2.1 11 rfl).1 dX10_laysTimes_217 ?_
                        refine lv_iload hx hb dX10_laysTimes_220 (lv_at hl 3 rfl) ?_
                        refine lv_iload hx hb dX10_laysTimes_222 (lv_at hl 8 rfl) ?_
                        first | refine q_iadd hx hb dX10_laysTimes_224 ⟨by omega, by omega⟩ (fun x_23 lx_23 ux_23 ex_23 => ?_) | refine q_iaddw hx hb dX10_laysTimes_224 (fun x_23 lx_23 ux_23 ex_23 => ?_)
                        refine q_iconst hx hb dX10_laysTimes_225 ?_
                        first | refine q_isub hx hb dX10_laysTimes_226 ⟨by omega, by omega⟩ (fun x_24 lx_24 ux_24 ex_24 => ?_) | refine q_isubw hx hb dX10_laysTimes_226 (fun x_24 lx_24 ux_24 ex_24 => ?_)
                        refine q_iald hx hb hK hw (hs.2.2.1 11 rfl).2.1 1 (hs.2.2.1 11 rfl).2.2 rfl ⟨lx_24, ux_24⟩ (by omega) (by show _ < ((73050 : Nat) : Int); omega) dX10_laysTimes_227 (fun x_25 lx_25 ux_25 ex_25 => ?_)
                        refine q_iast hx hb hK hw (hs.2.2.1 11 rfl).2.1 1 (hs.2.2.1 11 rfl).2.2 rfl ⟨lx_22, ux_22⟩ (by omega) (by show _ < ((73050 : Nat) : Int); omega) dX10_laysTimes_228 (fun H locs hw => ?_)
                        obtain ⟨f_26, ef_26⟩ : ∃ g : Nat → va_E, g = aU fw151 (ad 11) x_22 (iI x_25) := ⟨_, rfl⟩
                        have hE := hE.trans (show Kp a0 ad [11, 12, 13] [] fw151 f_26 by rw [ef_26]; exact Kp_aU hs rfl (by decide))
                        have hs_ := hs
                        have hs : MS cy L0 f_26 a0 ad := by rw [ef_26]; exact MS_aU hs rfl
                        rw [← ef_26] at hw
                        have Q4 : aI f_26 (ad 4) = aI f0 (ad 4) := funext fun x => hE.1 4 rfl (by decide) x
                        have q0_f_26 : aI f_26 (ad 4) (44 * x1 + 1) = aI f0 (ad 4) (44 * x1 + 1) := hE.1 4 rfl (by decide) _
                        have q1_f_26 : aI f_26 (ad 4) (44 * x1 + 11) = aI f0 (ad 4) (44 * x1 + 11) := hE.1 4 rfl (by decide) _
                        have v228 : aI f_26 (ad 11) (36525 * x2 + y9_151) = aI fw151 (ad 11) (36525 * x2 + y9_151 - 1) := (aI_cg (show 36525 * x2 + y9_151 = x_22 by omega)).trans (Eq.trans (by rw [ef_26]; exact hs_.aI_self rfl ⟨by omega, by omega⟩) (Eq.trans ex_25 (aI_cg (by omega))))
                        have lx' : LX (aI f_26 (ad 11)) (36525 * x2) y5_97 (y9_151 - 1) y6_97 := lx.shift (by omega) (by omega) hbb rfl v228 (fun x q0 q1 => by rw [ef_26]; exact hs_.aI_nj rfl (by omega) q0 (by omega))
                        have rr : ∀ x : Int, 0 ≤ x → x ≠ x2 → aI f_26 (ad 13) x = aI f0 (ad 13) x := fun x q0 q1 => Eq.trans (by rw [ef_26]; exact hs_.aI_ne rfl rfl (by decide) _) (rr x q0 q1)
                        refine lv_aload_n hx hb dX10_laysTimes_229 rfl (lv_at hl 0 rfl) ?_
                        refine q_getr (ci := 8) (C := RX10) (T := TX10) (N := 26) hx hb hts (fun w h => List.mem_cons_of_mem _ (mfX100 w h)) hown hK hw hs.1 hs.2.1 rfl 12 (by decide) (hts _ (List.mem_cons_of_mem _ (mr3 _ (List.mem_of_getElem? (i := 20) rfl)))) (fun _ h => h) rfl (hs.2.2.1 12 rfl).1 dX10_laysTimes_230 ?_
                        refine lv_iload hx hb dX10_laysTimes_233 (lv_at hl 3 rfl) ?_
                        refine lv_iload hx hb dX10_laysTimes_235 (lv_at hl 8 rfl) ?_
                        first | refine q_iadd hx hb dX10_laysTimes_237 ⟨by omega, by omega⟩ (fun x_27 lx_27 ux_27 ex_27 => ?_) | refine q_iaddw hx hb dX10_laysTimes_237 (fun x_27 lx_27 ux_27 ex_27 => ?_)
                        refine lv_aload_n hx hb dX10_laysTimes_238 rfl (lv_at hl 0 rfl) ?_
                        refine q_getr (ci := 8) (C := RX10) (T := TX10) (N := 26) hx hb hts (fun w h => List.mem_cons_of_mem _ (mfX100 w h)) hown hK hw hs.1 hs.2.1 rfl 12 (by decide) (hts _ (List.mem_cons_of_mem _ (mr3 _ (List.mem_of_getElem? (i := 20) rfl)))) (fun _ h => h) rfl (hs.2.2.1 12 rfl).1 dX10_laysTimes_239 ?_
                        refine lv_iload hx hb dX10_laysTimes_242 (lv_at hl 3 rfl) ?_
                        refine lv_iload hx hb dX10_laysTimes_244 (lv_at hl 8 rfl) ?_
                        first | refine q_iadd hx hb dX10_laysTimes_246 ⟨by omega, by omega⟩ (fun x_28 lx_28 ux_28 ex_28 => ?_) | refine q_iaddw hx hb dX10_laysTimes_246 (fun x_28 lx_28 ux_28 ex_28 => ?_)
                        refine q_iconst hx hb dX10_laysTimes_247 ?_
                        first | refine q_isub hx hb dX10_laysTimes_248 ⟨by omega, by omega⟩ (fun x_29 lx_29 ux_29 ex_29 => ?_) | refine q_isubw hx hb dX10_laysTimes_248 (fun x_29 lx_29 ux_29 ex_29 => ?_)
                        refine q_iald hx hb hK hw (hs.2.2.1 12 rfl).2.1 1 (hs.2.2.1 12 rfl).2.2 rfl ⟨lx_29, ux_29⟩ (by omega) (by show _ < ((73050 : Nat) : Int); omega) dX10_laysTimes_249 (fun x_30 lx_30 ux_30 ex_30 => ?_)
                        refine q_iast hx hb hK hw (hs.2.2.1 12 rfl).2.1 1 (hs.2.2.1 12 rfl).2.2 rfl ⟨lx_27, ux_27⟩ (by omega) (by show _ < ((73050 : Nat) : Int); omega) dX10_laysTimes_250 (fun H locs hw => ?_)
                        obtain ⟨f_31, ef_31⟩ : ∃ g : Nat → va_E, g = aU f_26 (ad 12) x_27 (iI x_30) := ⟨_, rfl⟩
                        have hE := hE.trans (show Kp a0 ad [11, 12, 13] [] f_26 f_31 by rw [ef_31]; exact Kp_aU hs rfl (by decide))
                        have hs_ := hs
                        have hs : MS cy L0 f_31 a0 ad := by rw [ef_31]; exact MS_aU hs rfl
                        rw [← ef_31] at hw
                        have Q4 : aI f_31 (ad 4) = aI f0 (ad 4) := funext fun x => hE.1 4 rfl (by decide) x
                        have q0_f_31 : aI f_31 (ad 4) (44 * x1 + 1) = aI f0 (ad 4) (44 * x1 + 1) := hE.1 4 rfl (by decide) _
                        have q1_f_31 : aI f_31 (ad 4) (44 * x1 + 11) = aI f0 (ad 4) (44 * x1 + 11) := hE.1 4 rfl (by decide) _
                        have lx' : LX (aI f_31 (ad 11)) (36525 * x2) y5_97 (y9_151 - 1) y6_97 := lx'.same (funext fun x => by rw [ef_31]; exact hs_.aI_ne rfl rfl (by decide) _)
                        have rr : ∀ x : Int, 0 ≤ x → x ≠ x2 → aI f_31 (ad 13) x = aI f0 (ad 13) x := fun x q0 q1 => Eq.trans (by rw [ef_31]; exact hs_.aI_ne rfl rfl (by decide) _) (rr x q0 q1)
                        obtain ⟨x_32, lx_32, ux_32, hx_32, ex_32⟩ := q_inc y9_151 (-1)
                        try (replace ex_32 : x_32 = y9_151 + (-1) := by omega)
                        refine lv_iinc (v := iI x_32) (lv' := [(9, .int (iI x_32)), (0, .ref a0), (1, .int (iI x1)), (2, .int (iI x2)), (4, .int (iI x_3)), (5, .int (iI y5_97)), (6, .int (iI y6_97)), (7, .int (iI x_9)), (8, .int (iI x_12))]) hx hb dX10_laysTimes_251 hl (k := 8) rfl hx_32 (by decide) rfl (fun ls hl => ?_)
                        refine lv_goto (tgt := 151) hx hb dX10_laysTimes_254 (by decide) ?_
                        exact ih151 x_32 lx_32 ux_32 L0 f_31 hs hE (by omega) (by omega) (by first | exact (lw.enter (by omega)).to (by omega) | exact lx'.to (by omega)) (by exact rr) (by omega) _ _ _ hw (lv_sub hl [1, 2, 3, 4, 5, 6, 7, 8, 0] rfl)
                      refine q_icmp_gt (tgt := 207) hx hb dX10_laysTimes_170 (by decide) ⟨lx_21, ux_21⟩ ⟨lx_9, ux_9⟩ (fun c170 => ?_) (fun c170 => ?_)
                      · exact J207 _ _ _ hw (lv_sub hl [0, 1, 2, 3, 4, 5, 6, 7, 8] rfl)
                      · refine lv_aload_n hx hb dX10_laysTimes_173 rfl (lv_at hl 0 rfl) ?_
                        refine q_getr (ci := 8) (C := RX10) (T := TX10) (N := 26) hx hb hts (fun w h => List.mem_cons_of_mem _ (mfX100 w h)) hown hK hw hs.1 hs.2.1 rfl 11 (by decide) (hts _ (List.mem_cons_of_mem _ (mr3 _ (List.mem_of_getElem? (i := 19) rfl)))) (fun _ h => h) rfl (hs.2.2.1 11 rfl).1 dX10_laysTimes_174 ?_
                        refine lv_iload hx hb dX10_laysTimes_177 (lv_at hl 3 rfl) ?_
                        refine lv_iload hx hb dX10_laysTimes_179 (lv_at hl 8 rfl) ?_
                        first | refine q_iadd hx hb dX10_laysTimes_181 ⟨by omega, by omega⟩ (fun x_33 lx_33 ux_33 ex_33 => ?_) | refine q_iaddw hx hb dX10_laysTimes_181 (fun x_33 lx_33 ux_33 ex_33 => ?_)
                        refine q_iconst hx hb dX10_laysTimes_182 ?_
                        first | refine q_isub hx hb dX10_laysTimes_183 ⟨by omega, by omega⟩ (fun x_34 lx_34 ux_34 ex_34 => ?_) | refine q_isubw hx hb dX10_laysTimes_183 (fun x_34 lx_34 ux_34 ex_34 => ?_)
                        refine q_iald hx hb hK hw (hs.2.2.1 11 rfl).2.1 1 (hs.2.2.1 11 rfl).2.2 rfl ⟨lx_34, ux_34⟩ (by omega) (by show _ < ((73050 : Nat) : Int); omega) dX10_laysTimes_184 (fun x_35 lx_35 ux_35 ex_35 => ?_)
                        refine lv_iload hx hb dX10_laysTimes_185 (lv_at hl 6 rfl) ?_
                        refine q_icmp_ne (tgt := 257) hx hb dX10_laysTimes_187 (by decide) ⟨lx_35, ux_35⟩ ⟨lx_9, ux_9⟩ (fun c187 => ?_) (fun c187 => ?_)
                        · exact J257 _ _ _ hw (lv_sub hl [0, 1, 2, 3, 4, 5, 6, 7, 8] rfl)
                        · refine lv_aload_n hx hb dX10_laysTimes_190 rfl (lv_at hl 0 rfl) ?_
                          refine q_getr (ci := 8) (C := RX10) (T := TX10) (N := 26) hx hb hts (fun w h => List.mem_cons_of_mem _ (mfX100 w h)) hown hK hw hs.1 hs.2.1 rfl 12 (by decide) (hts _ (List.mem_cons_of_mem _ (mr3 _ (List.mem_of_getElem? (i := 20) rfl)))) (fun _ h => h) rfl (hs.2.2.1 12 rfl).1 dX10_laysTimes_191 ?_
                          refine lv_iload hx hb dX10_laysTimes_194 (lv_at hl 3 rfl) ?_
                          refine lv_iload hx hb dX10_laysTimes_196 (lv_at hl 8 rfl) ?_
                          first | refine q_iadd hx hb dX10_laysTimes_198 ⟨by omega, by omega⟩ (fun x_36 lx_36 ux_36 ex_36 => ?_) | refine q_iaddw hx hb dX10_laysTimes_198 (fun x_36 lx_36 ux_36 ex_36 => ?_)
                          refine q_iconst hx hb dX10_laysTimes_199 ?_
                          first | refine q_isub hx hb dX10_laysTimes_200 ⟨by omega, by omega⟩ (fun x_37 lx_37 ux_37 ex_37 => ?_) | refine q_isubw hx hb dX10_laysTimes_200 (fun x_37 lx_37 ux_37 ex_37 => ?_)
                          refine q_iald hx hb hK hw (hs.2.2.1 12 rfl).2.1 1 (hs.2.2.1 12 rfl).2.2 rfl ⟨lx_37, ux_37⟩ (by omega) (by show _ < ((73050 : Nat) : Int); omega) dX10_laysTimes_201 (fun x_38 lx_38 ux_38 ex_38 => ?_)
                          refine lv_iload hx hb dX10_laysTimes_202 (lv_at hl 7 rfl) ?_
                          refine q_icmp_le (tgt := 257) hx hb dX10_laysTimes_204 (by decide) ⟨lx_38, ux_38⟩ ⟨lx_12, ux_12⟩ (fun c204 => ?_) (fun c204 => ?_)
                          · exact J257 _ _ _ hw (lv_sub hl [0, 1, 2, 3, 4, 5, 6, 7, 8] rfl)
                          · exact J207 _ _ _ hw (lv_sub hl [0, 1, 2, 3, 4, 5, 6, 7, 8] rfl)
                exact J151 (((y5_97 + (2147483648 : Int)).toNat) + 1) y5_97 ly5_97 uy5_97 L0 fw97 hs hE (by omega) (by omega) (by first | exact (lw.enter (by omega)).to (by omega) | exact lx'.to (by omega)) (by exact rr) (by omega) _ _ _ hw (lv_sub hl [3, 4, 5, 6, 7, 8, 2, 1, 0] rfl)
              · refine lv_goto (tgt := 284) hx hb dX10_laysTimes_144 (by decide) ?_
                exact J284 y5_97 ly5_97 uy5_97 L0 fw97 hs hE (by omega) (by omega) (by first | exact lw.mono (by omega) | exact lw'.to (by omega) (by omega)) (by exact rr) _ _ _ hw (lv_sub hl [2, 3, 4, 5, 6, 7] rfl)
        exact J97 ((((2147483647 : Int) - 0).toNat) + 1) y5_19 ly5_19 uy5_19 0 (by decide) (by decide) L0 fw19 hs hE (by omega) (by omega) (by omega) (by omega) (by first | exact lw.to (by omega) (by omega) | exact ld.2.2.to (by omega) (by omega)) (by exact rr) (by omega) _ _ _ hw (lv_sub hl [1, 2, 3, 5, 6, 0] rfl)
      · refine lv_aload_n hx hb dX10_laysTimes_25 rfl (lv_at hl 0 rfl) ?_
        refine q_getr (ci := 8) (C := RX10) (T := TX10) (N := 26) hx hb hts (fun w h => List.mem_cons_of_mem _ (mfX100 w h)) hown hK hw hs.1 hs.2.1 rfl 12 (by decide) (hts _ (List.mem_cons_of_mem _ (mr3 _ (List.mem_of_getElem? (i := 20) rfl)))) (fun _ h => h) rfl (hs.2.2.1 12 rfl).1 dX10_laysTimes_26 ?_
        refine lv_iload hx hb dX10_laysTimes_29 (lv_at hl 4 rfl) ?_
        refine lv_iload hx hb dX10_laysTimes_31 (lv_at hl 6 rfl) ?_
        first | refine q_iadd hx hb dX10_laysTimes_33 ⟨by omega, by omega⟩ (fun x_39 lx_39 ux_39 ex_39 => ?_) | refine q_iaddw hx hb dX10_laysTimes_33 (fun x_39 lx_39 ux_39 ex_39 => ?_)
        refine q_iald hx hb hK hw (hs.2.2.1 12 rfl).2.1 1 (hs.2.2.1 12 rfl).2.2 rfl ⟨lx_39, ux_39⟩ (by omega) (by show _ < ((73050 : Nat) : Int); omega) dX10_laysTimes_34 (fun x_40 lx_40 ux_40 ex_40 => ?_)
        have kk : x_40 = aI fw19 (ad 12) (36525 * x2 + y6_19) := ex_40.trans (aI_cg (by omega))
        have kb := lt.2.2.1 y6_19 (by omega) (by omega)
        have kb1 := kb.1
        have kb2 := kb.2.1
        have kb3 := UN_rg ro
        refine lv_istore (lv' := [(7, .int (iI x_40)), (0, .ref a0), (1, .int (iI x1)), (2, .int (iI x2)), (3, .int (iI x_1)), (4, .int (iI x_3)), (5, .int (iI y5_19)), (6, .int (iI y6_19))]) hx hb dX10_laysTimes_35 hl (by decide) rfl (fun ls hl => ?_)
        refine lv_aload_n hx hb dX10_laysTimes_37 rfl (lv_at hl 1 rfl) ?_
        refine lv_iload_n hx hb dX10_laysTimes_38 rfl (lv_at hl 2 rfl) ?_
        refine lv_iload hx hb dX10_laysTimes_39 (lv_at hl 0 rfl) ?_
        refine q_call_i hA hK hw (va_runV (As := [.int (iI x1), .int (iI x_40)]) (rest := []) ⟨hx, hb, hml, hown, hts⟩ (c_X10_oddOf_2 zo l D cy L0 fw19 a0 x1 lx1 ux1 x_40 lx_40 ux_40 ad hs (by omega) (by omega) (by omega) (by omega) _) (cwV 2 hts (gT (inV (mr27 _ (List.mem_of_getElem? (i := 7) rfl)) (mr27 _ (List.mem_of_getElem? (i := 8) rfl)) (mr27 _ (List.mem_of_getElem? (i := 9) rfl)) (mr1 _ (List.mem_of_getElem? (i := 5) rfl)) (mr27 _ (List.mem_of_getElem? (i := 10) rfl)))) rfl rfl rfl (by decide +kernel) ⟨Nat.le_of_ble_eq_true rfl, Nat.le_of_ble_eq_true rfl⟩) (Wd.preV zo hA hZ hw hK hs.1 hs.2.1 rfl) rfl rfl hl.1 rfl (lv_room (Nat.le_of_ble_eq_true rfl)) dX10_laysTimes_41 ⟨Nat.le_of_ble_eq_true rfl, Nat.le_of_ble_eq_true rfl⟩) (fun x_41 L1 f1 H locs lx_41 ux_41 ex_41 hw => ?_)
        obtain ⟨rfl, rfl, ex_41⟩ := ex_41
        rw [Q4] at ex_41
        have oR : -1 ≤ x_41 ∧ x_41 < aI f0 (ad 4) (44 * x1 + 11) := by rcases ex_41 with h | h <;> omega
        have oA : 0 ≤ x_41 → aI f0 (ad 4) (44 * x1 + 12 + 2 * x_41) = x_40 := fun q => ex_41.elim (fun h => absurd h.1 (by omega)) (fun h => h.2.2)
        have oB : x_41 < 0 → ∀ i : Int, 0 ≤ i → i < aI f0 (ad 4) (44 * x1 + 11) → aI f0 (ad 4) (44 * x1 + 12 + 2 * i) ≠ x_40 := fun q => ex_41.elim (fun h => h.2) (fun h => absurd h.1 (by omega))
        clear ex_41
        have J88 : ∀ (z5_88 : Int) (lz5_88 : -2147483648 ≤ z5_88) (uz5_88 : z5_88 ≤ 2147483647) (L : List Nat) (fw88 : Nat → va_E) (hs : MS cy L0 fw88 a0 ad) (hE : Kp a0 ad [11, 12, 13] [] f0 fw88) (i3 : 0 ≤ z5_88) (i4 : z5_88 ≤ y6_19 + 1) (lt : LT (aI f0 (ad 4)) (aI fw88 (ad 12)) (aI fw88 (ad 11)) (44 * x1) (36525 * x2) x_1 z5_88 (y6_19 + 1)) (rr : ∀ x : Int, 0 ≤ x → x ≠ x2 → aI fw88 (ad 13) x = aI f0 (ad 13) x) (H : Heap) (locs : List Loc) (ls : Array Slot) (hw : Wd D A s.heap L0 fw88 H locs) (hl : lv_has ls 10 [(0, .ref a0), (1, .int (iI x1)), (2, .int (iI x2)), (3, .int (iI x_1)), (4, .int (iI x_3)), (5, .int (iI z5_88)), (6, .int (iI y6_19))]), W p l e ({ frames := 3, cells := 0, slots := 0, locals := 74 } : Room) s m ([.ref a0, .int (iI x1), .int (iI x2)] : List Value).toArray below meth c H locs (0 + 0 + 0) (0 + 0 + 0) (MQ below (Qv D (tq cy) L0 f0 s.heap.size (fun (L1 : List Nat) (f1 : Nat → va_E) => L0 = L1 ∧ MS cy L0 f1 a0 ad ∧ Kp a0 ad [11, 12, 13] [] f0 f1 ∧ (0 ≤ aI f1 (ad 13) x2 ∧ aI f1 (ad 13) x2 ≤ 36525 ∧ (∀ x : Int, 0 ≤ x → x ≠ x2 → aI f1 (ad 13) x = aI f0 (ad 13) x) ∧ LW (aI f1 (ad 11)) (36525 * x2) (aI f1 (ad 13) x2) 16))) ([.ref a0, .int (iI x1), .int (iI x2)] : List Value).toArray s 0 0 A) (F0 m 88 ls []) := by
          intro z5_88 lz5_88 uz5_88 L fw88 hs hE i3 i4 lt rr H locs ls hw hl
          have Q4 : aI fw88 (ad 4) = aI f0 (ad 4) := funext fun x => hE.1 4 rfl (by decide) x
          have q0_fw88 : aI fw88 (ad 4) (44 * x1 + 1) = aI f0 (ad 4) (44 * x1 + 1) := hE.1 4 rfl (by decide) _
          have q1_fw88 : aI fw88 (ad 4) (44 * x1 + 11) = aI f0 (ad 4) (44 * x1 + 11) := hE.1 4 rfl (by decide) _
          obtain ⟨x_42, lx_42, ux_42, hx_42, ex_42⟩ := q_inc y6_19 (1)
          try (replace ex_42 : x_42 = y6_19 + (1) := by omega)
          refine lv_iinc (v := iI x_42) (lv' := [(6, .int (iI x_42)), (0, .ref a0), (1, .int (iI x1)), (2, .int (iI x2)), (3, .int (iI x_1)), (4, .int (iI x_3)), (5, .int (iI z5_88))]) hx hb dX10_laysTimes_88 hl (k := 6) rfl hx_42 (by decide) rfl (fun ls hl => ?_)
          refine lv_goto (tgt := 19) hx hb dX10_laysTimes_91 (by decide) ?_
          exact ih19 z5_88 lz5_88 uz5_88 x_42 lx_42 ux_42 L0 fw88 hs hE (by omega) (by omega) (by omega) (by omega) (by exact lt.to (by omega) (by omega)) (by exact rr) (by omega) _ _ _ hw (lv_sub hl [1, 2, 3, 4, 5, 6, 0] rfl)
        refine q_if_lt (tgt := 50) hx hb dX10_laysTimes_44 (by decide) ⟨lx_41, ux_41⟩ (fun c44 => ?_) (fun c44 => ?_)
        · refine lv_aload_n hx hb dX10_laysTimes_50 rfl (lv_at hl 1 rfl) ?_
          refine q_getr (ci := 8) (C := RX10) (T := TX10) (N := 26) hx hb hts (fun w h => List.mem_cons_of_mem _ (mfX100 w h)) hown hK hw hs.1 hs.2.1 rfl 12 (by decide) (hts _ (List.mem_cons_of_mem _ (mr3 _ (List.mem_of_getElem? (i := 20) rfl)))) (fun _ h => h) rfl (hs.2.2.1 12 rfl).1 dX10_laysTimes_51 ?_
          refine lv_iload hx hb dX10_laysTimes_54 (lv_at hl 5 rfl) ?_
          refine lv_iload hx hb dX10_laysTimes_56 (lv_at hl 6 rfl) ?_
          first | refine q_iadd hx hb dX10_laysTimes_58 ⟨by omega, by omega⟩ (fun x_43 lx_43 ux_43 ex_43 => ?_) | refine q_iaddw hx hb dX10_laysTimes_58 (fun x_43 lx_43 ux_43 ex_43 => ?_)
          refine lv_iload hx hb dX10_laysTimes_59 (lv_at hl 0 rfl) ?_
          refine q_iast hx hb hK hw (hs.2.2.1 12 rfl).2.1 1 (hs.2.2.1 12 rfl).2.2 rfl ⟨lx_43, ux_43⟩ (by omega) (by show _ < ((73050 : Nat) : Int); omega) dX10_laysTimes_61 (fun H locs hw => ?_)
          obtain ⟨f_44, ef_44⟩ : ∃ g : Nat → va_E, g = aU fw19 (ad 12) x_43 (iI x_40) := ⟨_, rfl⟩
          have hE := hE.trans (show Kp a0 ad [11, 12, 13] [] fw19 f_44 by rw [ef_44]; exact Kp_aU hs rfl (by decide))
          have hs_ := hs
          have hs : MS cy L0 f_44 a0 ad := by rw [ef_44]; exact MS_aU hs rfl
          rw [← ef_44] at hw
          have Q4 : aI f_44 (ad 4) = aI f0 (ad 4) := funext fun x => hE.1 4 rfl (by decide) x
          have q0_f_44 : aI f_44 (ad 4) (44 * x1 + 1) = aI f0 (ad 4) (44 * x1 + 1) := hE.1 4 rfl (by decide) _
          have q1_f_44 : aI f_44 (ad 4) (44 * x1 + 11) = aI f0 (ad 4) (44 * x1 + 11) := hE.1 4 rfl (by decide) _
          have n61 : ∀ x : Int, 0 ≤ x → x ≠ 36525 * x2 + y5_19 → aI f_44 (ad 12) x = aI fw19 (ad 12) x := fun x q0 q1 => by rw [ef_44]; exact hs_.aI_nj rfl (by omega) q0 (by omega)
          have t61 : ∀ x : Int, aI f_44 (ad 11) x = aI fw19 (ad 11) x := fun x => by rw [ef_44]; exact hs_.aI_ne rfl rfl (by decide) _
          have rr : ∀ x : Int, 0 ≤ x → x ≠ x2 → aI f_44 (ad 13) x = aI f0 (ad 13) x := fun x q0 q1 => Eq.trans (by rw [ef_44]; exact hs_.aI_ne rfl rfl (by decide) _) (rr x q0 q1)
          refine lv_aload_n hx hb dX10_laysTimes_62 rfl (lv_at hl 1 rfl) ?_
          refine q_getr (ci := 8) (C := RX10) (T := TX10) (N := 26) hx hb hts (fun w h => List.mem_cons_of_mem _ (mfX100 w h)) hown hK hw hs.1 hs.2.1 rfl 11 (by decide) (hts _ (List.mem_cons_of_mem _ (mr3 _ (List.mem_of_getElem? (i := 19) rfl)))) (fun _ h => h) rfl (hs.2.2.1 11 rfl).1 dX10_laysTimes_63 ?_
          refine lv_iload hx hb dX10_laysTimes_66 (lv_at hl 5 rfl) ?_
          refine lv_iload hx hb dX10_laysTimes_68 (lv_at hl 6 rfl) ?_
          first | refine q_iadd hx hb dX10_laysTimes_70 ⟨by omega, by omega⟩ (fun x_45 lx_45 ux_45 ex_45 => ?_) | refine q_iaddw hx hb dX10_laysTimes_70 (fun x_45 lx_45 ux_45 ex_45 => ?_)
          refine q_sipush hx hb dX10_laysTimes_71 rfl ?_
          refine lv_iload hx hb dX10_laysTimes_74 (lv_at hl 0 rfl) ?_
          first | refine q_imul hx hb dX10_laysTimes_76 ⟨by omega, by omega⟩ (fun x_46 lx_46 ux_46 ex_46 => ?_) | refine q_imulw hx hb dX10_laysTimes_76 (fun x_46 lx_46 ux_46 ex_46 => ?_)
          refine lv_aload_n hx hb dX10_laysTimes_77 rfl (lv_at hl 1 rfl) ?_
          refine lv_iload_n hx hb dX10_laysTimes_78 rfl (lv_at hl 2 rfl) ?_
          refine q_iconst hx hb dX10_laysTimes_79 ?_
          refine q_call_i hA hK hw (va_runV (As := [.int (iI x1), .int (iI 1)]) (rest := [.int (iI x_46), .int (iI x_45), .ref (ad 11)]) ⟨hx, hb, hml, hown, hts⟩ (c_X10_get zo l D cy L0 f_44 a0 x1 lx1 ux1 1 (by decide) (by decide) ad hs (by omega) (by omega) (by omega) (by omega) _) (cwV 2 hts (gT (inV (mr25 _ (List.mem_of_getElem? (i := 0) rfl)) (mr25 _ (List.mem_of_getElem? (i := 1) rfl)) (mr25 _ (List.mem_of_getElem? (i := 2) rfl)) (mr1 _ (List.mem_of_getElem? (i := 5) rfl)) (mr25 _ (List.mem_of_getElem? (i := 3) rfl)))) rfl rfl rfl (by decide +kernel) ⟨Nat.le_of_ble_eq_true rfl, Nat.le_of_ble_eq_true rfl⟩) (Wd.preV zo hA hZ hw hK hs.1 hs.2.1 rfl) rfl rfl hl.1 rfl (lv_room (Nat.le_of_ble_eq_true rfl)) dX10_laysTimes_80 ⟨Nat.le_of_ble_eq_true rfl, Nat.le_of_ble_eq_true rfl⟩) (fun x_47 L1 f1 H locs lx_47 ux_47 ex_47 hw => ?_)
          obtain ⟨rfl, rfl, ex_47⟩ := ex_47
          first | refine q_iadd hx hb dX10_laysTimes_83 ⟨by omega, by omega⟩ (fun x_48 lx_48 ux_48 ex_48 => ?_) | refine q_iaddw hx hb dX10_laysTimes_83 (fun x_48 lx_48 ux_48 ex_48 => ?_)
          refine q_iast hx hb hK hw (hs.2.2.1 11 rfl).2.1 1 (hs.2.2.1 11 rfl).2.2 rfl ⟨lx_45, ux_45⟩ (by omega) (by show _ < ((73050 : Nat) : Int); omega) dX10_laysTimes_84 (fun H locs hw => ?_)
          obtain ⟨f_49, ef_49⟩ : ∃ g : Nat → va_E, g = aU f_44 (ad 11) x_45 (iI x_48) := ⟨_, rfl⟩
          have hE := hE.trans (show Kp a0 ad [11, 12, 13] [] f_44 f_49 by rw [ef_49]; exact Kp_aU hs rfl (by decide))
          have hs_ := hs
          have hs : MS cy L0 f_49 a0 ad := by rw [ef_49]; exact MS_aU hs rfl
          rw [← ef_49] at hw
          have Q4 : aI f_49 (ad 4) = aI f0 (ad 4) := funext fun x => hE.1 4 rfl (by decide) x
          have q0_f_49 : aI f_49 (ad 4) (44 * x1 + 1) = aI f0 (ad 4) (44 * x1 + 1) := hE.1 4 rfl (by decide) _
          have q1_f_49 : aI f_49 (ad 4) (44 * x1 + 11) = aI f0 (ad 4) (44 * x1 + 11) := hE.1 4 rfl (by decide) _
          have n84 : ∀ x : Int, 0 ≤ x → x ≠ 36525 * x2 + y5_19 → aI f_49 (ad 11) x = aI f_44 (ad 11) x := fun x q0 q1 => by rw [ef_49]; exact hs_.aI_nj rfl (by omega) q0 (by omega)
          have t84 : ∀ x : Int, aI f_49 (ad 12) x = aI f_44 (ad 12) x := fun x => by rw [ef_49]; exact hs_.aI_ne rfl rfl (by decide) _
          have rr : ∀ x : Int, 0 ≤ x → x ≠ x2 → aI f_49 (ad 13) x = aI f0 (ad 13) x := fun x q0 q1 => Eq.trans (by rw [ef_49]; exact hs_.aI_ne rfl rfl (by decide) _) (rr x q0 q1)
          have v84 : aI f_49 (ad 11) (36525 * x2 + y5_19) = 1440 * aI fw19 (ad 12) (36525 * x2 + y6_19) + aI f0 (ad 4) (44 * x1 + 1) := (aI_cg (show 36525 * x2 + y5_19 = x_45 by omega)).trans (Eq.trans (by rw [ef_49]; exact hs_.aI_self rfl ⟨by omega, by omega⟩) (show x_48 = _ by rw [← kk]; omega))
          have lt' : LT (aI f0 (ad 4)) (aI f_49 (ad 12)) (aI f_49 (ad 11)) (44 * x1) (36525 * x2) x_1 (y5_19 + 1) (y6_19 + 1) := lt.keep ro (by omega) hbb (by rw [← kk]; exact oB (by omega)) (fun x q0 q1 => (t84 x).trans (n61 x q0 q1)) v84 (fun x q0 q1 => (n84 x q0 q1).trans (t61 x))
          obtain ⟨x_50, lx_50, ux_50, hx_50, ex_50⟩ := q_inc y5_19 (1)
          try (replace ex_50 : x_50 = y5_19 + (1) := by omega)
          refine lv_iinc (v := iI x_50) (lv' := [(5, .int (iI x_50)), (7, .int (iI x_40)), (0, .ref a0), (1, .int (iI x1)), (2, .int (iI x2)), (3, .int (iI x_1)), (4, .int (iI x_3)), (6, .int (iI y6_19))]) hx hb dX10_laysTimes_85 hl (k := 6) rfl hx_50 (by decide) rfl (fun ls hl => ?_)
          exact J88 x_50 lx_50 ux_50 L0 f_49 hs hE (by omega) (by omega) (by first | exact lt.skip.to (by omega) (by omega) | exact lt'.to (by omega) (by omega)) (by exact rr) _ _ _ hw (lv_sub hl [2, 3, 4, 5, 6, 0, 7] rfl)
        · refine lv_goto (tgt := 88) hx hb dX10_laysTimes_47 (by decide) ?_
          exact J88 y5_19 ly5_19 uy5_19 L0 fw19 hs hE (by omega) (by omega) (by first | exact lt.skip.to (by omega) (by omega) | exact lt'.to (by omega) (by omega)) (by exact rr) _ _ _ hw (lv_sub hl [1, 2, 3, 4, 5, 6, 7] rfl)
  exact J19 ((((2147483647 : Int) - 0).toNat) + 1) 0 (by decide) (by decide) 0 (by decide) (by decide) L0 f_2 hs hE (by omega) (by omega) (by omega) (by omega) (by exact lt.to (by omega) (by omega)) (by exact rr) (by omega) _ _ _ hw (lv_sub hl [4, 5, 6, 3, 2, 1, 0] rfl)
