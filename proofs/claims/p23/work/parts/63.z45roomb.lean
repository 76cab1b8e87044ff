set_option maxHeartbeats 4000000 in
set_option maxRecDepth 100000 in
theorem c_X10_laysTaken_o {Z : Zt} (zo : Zok Z) (l : Launch) (D : va_G) (cy : Cy) (L0 : List Nat) (f0 : Nat → va_E) (a0 : Nat) (x1 : Int) (lx1 : -2147483648 ≤ x1) (ux1 : x1 ≤ 2147483647) (x2 : Int) (lx2 : -2147483648 ≤ x2) (ux2 : x2 ≤ 2147483647) (x3 : Int) (lx3 : -2147483648 ≤ x3) (ux3 : x3 ≤ 2147483647) (ad : Nat → Nat) (hs : MS cy L0 f0 a0 ad) (hv : MV f0 a0 ad) (hd : DT f0 ad 36525) (mo : MOk f0 a0 ad) (Os : Int → Int → Int) (oms : OMs (aI f0 (ad 4)) (fI f0 a0 5) Os) (h1 : x3 ≤ 90721) (b0 : 0 ≤ x2) (b1 : x2 ≤ 60000000) : Cv Z l yX10_laysTaken (Cond.code yX10_laysTaken cX10_laysTaken 9 none :: TB) ({ frames := 4, cells := 0, slots := 0, locals := 103 } : Room) 0 0 D (tq cy) [.ref a0, .int (iI x1), .int (iI x2), .int (iI x3)] L0 f0 (fun (L1 : List Nat) (f1 : Nat → va_E) => L0 = L1 ∧ MS cy L0 f1 a0 ad ∧ Kp a0 ad [11, 12, 13, 25] [] f0 f1 ∧ (MK (fun j => cov (OcR (aI f0 (ad 4)) Os x1 (fI f0 a0 5)) (x2 + j)) x3 (aI f1 (ad 25)))) := by
  refine Cv.enter (cc := cX10_laysTaken) (n := 9) rfl (plainFor_of_name (by decide)) (Nat.le_of_ble_eq_true rfl) ?_
  intro p e s m below meth c ls A hx hb hr hts hown hlocks hnm hml hK hA hAe hw hZ hl
  have hown : s.vm.findClass RX10 = some m.cls := hown
  have hl : lv_has ls 9 [(0, .ref a0), (1, .int (iI x1)), (2, .int (iI x2)), (3, .int (iI x3))] := hl
  have hN : ZN s := (zo.2.2.2.2 _ _ _ hZ).2
  have hE : Kp a0 ad [11, 12, 13, 25] [] f0 f0 := Kp.refl _ _ _ _ _
  have m5 := hv.1
  have m6 := hv.2.1
  refine q_iconst hx hb dX10_laysTaken_0 ?_
  refine lv_istore (lv' := [(4, .int (iI 0)), (0, .ref a0), (1, .int (iI x1)), (2, .int (iI x2)), (3, .int (iI x3))]) hx hb dX10_laysTaken_1 hl (by decide) rfl (fun ls hl => ?_)
  have J3 : ∀ (n3 : Nat) (y4_3 : Int) (ly4_3 : -2147483648 ≤ y4_3) (uy4_3 : y4_3 ≤ 2147483647) (L : List Nat) (fw3 : Nat → va_E) (hs : MS cy L0 fw3 a0 ad) (hE : Kp a0 ad [11, 12, 13, 25] [] f0 fw3) (i1 : 0 ≤ y4_3) (u5 : fI fw3 a0 5 = fI f0 a0 5) (zz : ∀ j : Int, 0 ≤ j → j < y4_3 → aI fw3 (ad 25) j = 0) (hn3 : ((2147483647 : Int) - y4_3).toNat < n3) (H : Heap) (locs : List Loc) (ls : Array Slot) (hw : Wd D A s.heap L0 fw3 H locs) (hl : lv_has ls 9 [(0, .ref a0), (1, .int (iI x1)), (2, .int (iI x2)), (3, .int (iI x3)), (4, .int (iI y4_3))]), W p l e ({ frames := 4, cells := 0, slots := 0, locals := 103 } : Room) s m ([.ref a0, .int (iI x1), .int (iI x2), .int (iI x3)] : List Value).toArray below meth c H locs (0) (0) (MQ below (Qv D (tq cy) L0 f0 s.heap.size (fun (L1 : List Nat) (f1 : Nat → va_E) => L0 = L1 ∧ MS cy L0 f1 a0 ad ∧ Kp a0 ad [11, 12, 13, 25] [] f0 f1 ∧ (MK (fun j => cov (OcR (aI f0 (ad 4)) Os x1 (fI f0 a0 5)) (x2 + j)) x3 (aI f1 (ad 25))))) ([.ref a0, .int (iI x1), .int (iI x2), .int (iI x3)] : List Value).toArray s 0 0 A) (F0 m 3 ls []) := by
    intro n3
    induction n3 with
    | zero => intro y4_3 ly4_3 uy4_3 L fw3 hs hE i1 u5 zz hn3; exact absurd hn3 (Nat.not_lt_zero _)
    | succ n3 ih3 =>
      intro y4_3 ly4_3 uy4_3 L fw3 hs hE i1 u5 zz hn3 H locs ls hw hl
      refine lv_iload hx hb dX10_laysTaken_3 (lv_at hl 4 rfl) ?_
      refine lv_iload_n hx hb dX10_laysTaken_5 rfl (lv_at hl 3 rfl) ?_
      refine q_icmp_ge (tgt := 23) hx hb dX10_laysTaken_6 (by decide) ⟨ly4_3, uy4_3⟩ ⟨lx3, ux3⟩ (fun c6 => ?_) (fun c6 => ?_)
      · refine q_iconst hx hb dX10_laysTaken_23 ?_
        refine lv_istore (lv' := [(4, .int (iI 0)), (0, .ref a0), (1, .int (iI x1)), (2, .int (iI x2)), (3, .int (iI x3))]) hx hb dX10_laysTaken_24 hl (by decide) rfl (fun ls hl => ?_)
        have J26 : ∀ (n26 : Nat) (y4_26 : Int) (ly4_26 : -2147483648 ≤ y4_26) (uy4_26 : y4_26 ≤ 2147483647) (L : List Nat) (fw26 : Nat → va_E) (hs : MS cy L0 fw26 a0 ad) (hE : Kp a0 ad [11, 12, 13, 25] [] f0 fw26) (i1 : 0 ≤ y4_26) (i2 : y4_26 ≤ (fI f0 a0 5)) (u5 : fI fw26 a0 5 = fI f0 a0 5) (mk : MK (fun j => cov (OcR (aI f0 (ad 4)) Os x1 y4_26) (x2 + j)) x3 (aI fw26 (ad 25))) (hn26 : ((2147483647 : Int) - y4_26).toNat < n26) (H : Heap) (locs : List Loc) (ls : Array Slot) (hw : Wd D A s.heap L0 fw26 H locs) (hl : lv_has ls 9 [(0, .ref a0), (1, .int (iI x1)), (2, .int (iI x2)), (3, .int (iI x3)), (4, .int (iI y4_26))]), W p l e ({ frames := 4, cells := 0, slots := 0, locals := 103 } : Room) s m ([.ref a0, .int (iI x1), .int (iI x2), .int (iI x3)] : List Value).toArray below meth c H locs (0) (0) (MQ below (Qv D (tq cy) L0 f0 s.heap.size (fun (L1 : List Nat) (f1 : Nat → va_E) => L0 = L1 ∧ MS cy L0 f1 a0 ad ∧ Kp a0 ad [11, 12, 13, 25] [] f0 f1 ∧ (MK (fun j => cov (OcR (aI f0 (ad 4)) Os x1 (fI f0 a0 5)) (x2 + j)) x3 (aI f1 (ad 25))))) ([.ref a0, .int (iI x1), .int (iI x2), .int (iI x3)] : List Value).toArray s 0 0 A) (F0 m 26 ls []) := by
          intro n26
          induction n26 with
          | zero => intro y4_26 ly4_26 uy4_26 L fw26 hs hE i1 i2 u5 mk hn26; exact absurd hn26 (Nat.not_lt_zero _)
          | succ n26 ih26 =>
            intro y4_26 ly4_26 uy4_26 L fw26 hs hE i1 i2 u5 mk hn26 H locs ls hw hl
            have Q4f : aI fw26 (ad 4) = aI f0 (ad 4) := funext fun x => hE.1 4 rfl (by decide) x
            refine lv_iload hx hb dX10_laysTaken_26 (lv_at hl 4 rfl) ?_
            refine lv_aload_n hx hb dX10_laysTaken_28 rfl (lv_at hl 0 rfl) ?_
            refine q_geti (ci := 8) (C := RX10) (T := TX10) (N := 26) hx hb hts (fun w h => List.mem_cons_of_mem _ (mfX100 w h)) hown hK hw hs.1 hs.2.1 rfl 5 (by decide) (hts _ (List.mem_cons_of_mem _ (mr19 _ (List.mem_of_getElem? (i := 1) rfl)))) (fun _ h => h) rfl dX10_laysTaken_29 (fun x_1 lx_1 ux_1 ex_1 => ?_)
            refine q_icmp_ge (tgt := 159) hx hb dX10_laysTaken_32 (by decide) ⟨ly4_26, uy4_26⟩ ⟨lx_1, ux_1⟩ (fun c32 => ?_) (fun c32 => ?_)
            · exact q_ret_v hx hb hr hlocks hK hAe hw (Nat.le_of_ble_eq_true rfl) (Nat.le_of_ble_eq_true rfl) dX10_laysTaken_159 (by exact ⟨rfl, hs, hE, mk.toR (by omega)⟩)
            · have rv0 := hv.row y4_26 (by omega) (by omega)
              have ok0 := (oms y4_26 ⟨by omega, by omega⟩).2
              refine lv_aload_n hx hb dX10_laysTaken_35 rfl (lv_at hl 0 rfl) ?_
              refine lv_iload hx hb dX10_laysTaken_36 (lv_at hl 4 rfl) ?_
              refine q_iconst hx hb dX10_laysTaken_38 ?_
              refine q_call_i hA hK hw (va_runV (As := [.int (iI y4_26), .int (iI 0)]) (rest := []) ⟨hx, hb, hml, hown, hts⟩ (c_X10_get zo l D cy L0 fw26 a0 y4_26 ly4_26 uy4_26 0 (by decide) (by decide) ad hs (by omega) (by omega) (by omega) (by omega) _) (cwV 2 hts (gT (inV (mr25 _ (List.mem_of_getElem? (i := 0) rfl)) (mr25 _ (List.mem_of_getElem? (i := 1) rfl)) (mr25 _ (List.mem_of_getElem? (i := 2) rfl)) (mr1 _ (List.mem_of_getElem? (i := 5) rfl)) (mr25 _ (List.mem_of_getElem? (i := 3) rfl)))) rfl rfl rfl (by decide +kernel) ⟨Nat.le_of_ble_eq_true rfl, Nat.le_of_ble_eq_true rfl⟩) (Wd.preV zo hA hZ hw hK hs.1 hs.2.1 rfl) rfl rfl hl.1 rfl (lv_room (Nat.le_of_ble_eq_true rfl)) dX10_laysTaken_39 ⟨Nat.le_of_ble_eq_true rfl, Nat.le_of_ble_eq_true rfl⟩) (fun x_2 L1 f1 H locs lx_2 ux_2 ex_2 hw => ?_)
              obtain ⟨rfl, rfl, ex_2⟩ := ex_2
              have g39 : x_2 = aI f0 (ad 4) (44 * y4_26) := ex_2.trans ((congrFun Q4f _).trans (aI_cg (by omega)))
              refine lv_iload_n hx hb dX10_laysTaken_42 rfl (lv_at hl 1 rfl) ?_
              have J153 : ∀ (L : List Nat) (fw153 : Nat → va_E) (hs : MS cy L0 fw153 a0 ad) (hE : Kp a0 ad [11, 12, 13, 25] [] f0 fw153) (u5 : fI fw153 a0 5 = fI f0 a0 5) (mk2 : MK (fun j => cov (OcR (aI f0 (ad 4)) Os x1 (y4_26 + 1)) (x2 + j)) x3 (aI fw153 (ad 25))) (H : Heap) (locs : List Loc) (ls : Array Slot) (hw : Wd D A s.heap L0 fw153 H locs) (hl : lv_has ls 9 [(0, .ref a0), (1, .int (iI x1)), (2, .int (iI x2)), (3, .int (iI x3)), (4, .int (iI y4_26))]), W p l e ({ frames := 4, cells := 0, slots := 0, locals := 103 } : Room) s m ([.ref a0, .int (iI x1), .int (iI x2), .int (iI x3)] : List Value).toArray below meth c H locs (0 + 0) (0 + 0) (MQ below (Qv D (tq cy) L0 f0 s.heap.size (fun (L1 : List Nat) (f1 : Nat → va_E) => L0 = L1 ∧ MS cy L0 f1 a0 ad ∧ Kp a0 ad [11, 12, 13, 25] [] f0 f1 ∧ (MK (fun j => cov (OcR (aI f0 (ad 4)) Os x1 (fI f0 a0 5)) (x2 + j)) x3 (aI f1 (ad 25))))) ([.ref a0, .int (iI x1), .int (iI x2), .int (iI x3)] : List Value).toArray s 0 0 A) (F0 m 153 ls []) := by
                intro L fw153 hs hE u5 mk2 H locs ls hw hl
                obtain ⟨x_3, lx_3, ux_3, hx_3, ex_3⟩ := q_inc y4_26 (1)
                try (replace ex_3 : x_3 = y4_26 + (1) := by omega)
                refine lv_iinc (v := iI x_3) (lv' := [(4, .int (iI x_3)), (0, .ref a0), (1, .int (iI x1)), (2, .int (iI x2)), (3, .int (iI x3))]) hx hb dX10_laysTaken_153 hl (k := 4) rfl hx_3 (by decide) rfl (fun ls hl => ?_)
                refine lv_goto (tgt := 26) hx hb dX10_laysTaken_156 (by decide) ?_
                exact ih26 x_3 lx_3 ux_3 L0 fw153 hs hE (by omega) (by omega) (by omega) (by first | exact MK.zero zz (by omega) (fun j => cov_none (by omega)) | exact mk2.toR (by omega) | fail "none") (by omega) _ _ _ hw (lv_sub hl [1, 2, 3, 4, 0] rfl)
              refine q_icmp_eq (tgt := 49) hx hb dX10_laysTaken_43 (by decide) ⟨lx_2, ux_2⟩ ⟨lx1, ux1⟩ (fun c43 => ?_) (fun c43 => ?_)
              · refine lv_aload_n hx hb dX10_laysTaken_49 rfl (lv_at hl 0 rfl) ?_
                refine lv_iload hx hb dX10_laysTaken_50 (lv_at hl 4 rfl) ?_
                refine q_iconst hx hb dX10_laysTaken_52 ?_
                refine q_call_v hA hK hw (va_runV (As := [.int (iI y4_26), .int (iI 0)]) (rest := []) ⟨hx, hb, hml, hown, hts⟩ (c_X10_laysTimes_o zo l D cy L0 fw26 a0 y4_26 ly4_26 uy4_26 0 (by decide) (by decide) ad hs (by first | exact hv | exact hv.kp hE (by decide) (by decide)) (by omega) (by omega) (by omega) (by omega) (by first | exact hd | exact hd.kp hE (by decide) (by decide) (by decide) (by decide)) (by first | exact mo | exact mo.kp hE (by decide) (by decide)) (Os y4_26) (by rw [Q4f]; exact (oms y4_26 ⟨by omega, by omega⟩).1) (by rw [Q4f]; exact (oms y4_26 ⟨by omega, by omega⟩).2) _) (cwV 2 hts (gT (inV (mr30 _ (List.mem_of_getElem? (i := 11) rfl)) (mr30 _ (List.mem_of_getElem? (i := 12) rfl)) (mr30 _ (List.mem_of_getElem? (i := 13) rfl)) (mr1 _ (List.mem_of_getElem? (i := 5) rfl)) (mr30 _ (List.mem_of_getElem? (i := 14) rfl)))) rfl rfl rfl (by decide +kernel) ⟨Nat.le_of_ble_eq_true rfl, Nat.le_of_ble_eq_true rfl⟩) (Wd.preV zo hA hZ hw hK hs.1 hs.2.1 rfl) rfl rfl hl.1 rfl (lv_room (Nat.le_of_ble_eq_true rfl)) dX10_laysTaken_53 ⟨Nat.le_of_ble_eq_true rfl, Nat.le_of_ble_eq_true rfl⟩) (fun L1 f_5 H locs ex_4 hw => ?_)
                obtain ⟨rfl, hs, hX, ex_4⟩ := ex_4
                have hE := hE.trans (hX.mono (rs' := [11, 12, 13, 25]) (fs' := []) (by decide) (by decide))
                have t5_f_5 : fI f_5 a0 5 = fI fw26 a0 5 := hX.2 5 (by decide)
                obtain ⟨a38, b38, c38, -, ll0, -⟩ := ex_4
                obtain ⟨nl, enl⟩ : ∃ z : Int, z = aI f_5 (ad 13) 0 := ⟨_, rfl⟩
                rw [← enl] at a38 b38 ll0
                rw [Q4f] at ll0
                obtain ⟨fA, eA⟩ : ∃ z : Nat → va_E, z = f_5 := ⟨_, rfl⟩
                have ll1 : LL (Oc (aI f0 (ad 4)) (44 * y4_26) (Os y4_26)) (fun i : Int => aI fA (ad 11) i) (fun i : Int => aI fA (ad 12) i) nl := ll0.row rfl (fun i _ _ => by show aI fA (ad 11) i = aI _ (ad 11) _; rw [eA]; exact aI_cg (by omega)) (fun i _ _ => by show aI fA (ad 12) i = aI _ (ad 12) _; rw [eA]; exact aI_cg (by omega))
                have hr9 := kg_rg (g := (aI f0 (ad 4))) (p := 44 * y4_26) (by omega) (by omega)
                have tb9 : ∀ i : Int, 0 ≤ i → i < nl → 0 ≤ aI fA (ad 11) i ∧ aI fA (ad 11) i ≤ 52595999 := fun i i0 i1 => ((ll1.2.1 i i0 i1).rg ok0 hr9 (by omega) (by omega)).2.2
                have ck0 : MK (CK (aI f0 (ad 4)) Os x1 y4_26 x2 (fun i : Int => aI fA (ad 11) i) (aI f0 (ad 4) (44 * y4_26 + 2)) 0) x3 (aI f_5 (ad 25)) := CK.first mk (fun j => hX.1 25 rfl (by decide) j) (Int.le_refl 0)
                clear ll0
                refine q_iconst hx hb dX10_laysTaken_56 ?_
                refine lv_istore (lv' := [(5, .int (iI 0)), (0, .ref a0), (1, .int (iI x1)), (2, .int (iI x2)), (3, .int (iI x3)), (4, .int (iI y4_26))]) hx hb dX10_laysTaken_57 hl (by decide) rfl (fun ls hl => ?_)
                have J59 : ∀ (n59 : Nat) (y5_59 : Int) (ly5_59 : -2147483648 ≤ y5_59) (uy5_59 : y5_59 ≤ 2147483647) (L : List Nat) (fw59 : Nat → va_E) (hs : MS cy L0 fw59 a0 ad) (hE : Kp a0 ad [11, 12, 13, 25] [] f0 fw59) (j1 : 0 ≤ y5_59) (j2 : y5_59 ≤ nl) (u5 : fI fw59 a0 5 = fI f0 a0 5) (qa : ∀ x : Int, aI fw59 (ad 11) x = aI fA (ad 11) x) (n13 : aI fw59 (ad 13) 0 = nl) (ck : MK (CK (aI f0 (ad 4)) Os x1 y4_26 x2 (fun i : Int => aI fA (ad 11) i) (aI f0 (ad 4) (44 * y4_26 + 2)) y5_59) x3 (aI fw59 (ad 25))) (hn59 : ((2147483647 : Int) - y5_59).toNat < n59) (H : Heap) (locs : List Loc) (ls : Array Slot) (hw : Wd D A s.heap L0 fw59 H locs) (hl : lv_has ls 9 [(0, .ref a0), (1, .int (iI x1)), (2, .int (iI x2)), (3, .int (iI x3)), (4, .int (iI y4_26)), (5, .int (iI y5_59))]), W p l e ({ frames := 4, cells := 0, slots := 0, locals := 103 } : Room) s m ([.ref a0, .int (iI x1), .int (iI x2), .int (iI x3)] : List Value).toArray below meth c H locs (0 + 0 + 0) (0 + 0 + 0) (MQ below (Qv D (tq cy) L0 f0 s.heap.size (fun (L1 : List Nat) (f1 : Nat → va_E) => L0 = L1 ∧ MS cy L0 f1 a0 ad ∧ Kp a0 ad [11, 12, 13, 25] [] f0 f1 ∧ (MK (fun j => cov (OcR (aI f0 (ad 4)) Os x1 (fI f0 a0 5)) (x2 + j)) x3 (aI f1 (ad 25))))) ([.ref a0, .int (iI x1), .int (iI x2), .int (iI x3)] : List Value).toArray s 0 0 A) (F0 m 59 ls []) := by
                  intro n59
                  induction n59 with
                  | zero => intro y5_59 ly5_59 uy5_59 L fw59 hs hE j1 j2 u5 qa n13 ck hn59; exact absurd hn59 (Nat.not_lt_zero _)
                  | succ n59 ih59 =>
                    intro y5_59 ly5_59 uy5_59 L fw59 hs hE j1 j2 u5 qa n13 ck hn59 H locs ls hw hl
                    have Q4g : aI fw59 (ad 4) = aI f0 (ad 4) := funext fun x => hE.1 4 rfl (by decide) x
                    refine lv_iload hx hb dX10_laysTaken_59 (lv_at hl 5 rfl) ?_
                    refine lv_aload_n hx hb dX10_laysTaken_61 rfl (lv_at hl 0 rfl) ?_
                    refine q_getr (ci := 8) (C := RX10) (T := TX10) (N := 26) hx hb hts (fun w h => List.mem_cons_of_mem _ (mfX100 w h)) hown hK hw hs.1 hs.2.1 rfl 13 (by decide) (hts _ (List.mem_cons_of_mem _ (mr3 _ (List.mem_of_getElem? (i := 21) rfl)))) (fun _ h => h) rfl (hs.2.2.1 13 rfl).1 dX10_laysTaken_62 ?_
                    refine q_iconst hx hb dX10_laysTaken_65 ?_
                    refine q_iald hx hb hK hw (hs.2.2.1 13 rfl).2.1 1 (hs.2.2.1 13 rfl).2.2 rfl ⟨by decide, by decide⟩ (by omega) (by show _ < ((2 : Nat) : Int); omega) dX10_laysTaken_66 (fun x_6 lx_6 ux_6 ex_6 => ?_)
                    have g66 := ex_6
                    refine q_icmp_ge (tgt := 153) hx hb dX10_laysTaken_67 (by decide) ⟨ly5_59, uy5_59⟩ ⟨lx_6, ux_6⟩ (fun c67 => ?_) (fun c67 => ?_)
                    · exact J153 L0 fw59 hs hE (by omega) (by first | exact mk.skipR (by omega) rfl | exact CK.done ck (by omega) (by omega) rfl ll1 (by omega) rfl | fail "none") _ _ _ hw (lv_sub hl [0, 1, 2, 3, 4] rfl)
                    · refine lv_aload_n hx hb dX10_laysTaken_70 rfl (lv_at hl 0 rfl) ?_
                      refine q_getr (ci := 8) (C := RX10) (T := TX10) (N := 26) hx hb hts (fun w h => List.mem_cons_of_mem _ (mfX100 w h)) hown hK hw hs.1 hs.2.1 rfl 11 (by decide) (hts _ (List.mem_cons_of_mem _ (mr3 _ (List.mem_of_getElem? (i := 19) rfl)))) (fun _ h => h) rfl (hs.2.2.1 11 rfl).1 dX10_laysTaken_71 ?_
                      refine lv_iload hx hb dX10_laysTaken_74 (lv_at hl 5 rfl) ?_
                      refine q_iald hx hb hK hw (hs.2.2.1 11 rfl).2.1 1 (hs.2.2.1 11 rfl).2.2 rfl ⟨ly5_59, uy5_59⟩ (by omega) (by show _ < ((73050 : Nat) : Int); omega) dX10_laysTaken_76 (fun x_7 lx_7 ux_7 ex_7 => ?_)
                      have g76 : x_7 = aI fA (ad 11) y5_59 := ex_7.trans (qa _)
                      have b76 := tb9 y5_59 (by omega) (by omega)
                      refine lv_iload_n hx hb dX10_laysTaken_77 rfl (lv_at hl 2 rfl) ?_
                      first | refine q_isub hx hb dX10_laysTaken_78 ⟨by omega, by omega⟩ (fun x_8 lx_8 ux_8 ex_8 => ?_) | refine q_isubw hx hb dX10_laysTaken_78 (fun x_8 lx_8 ux_8 ex_8 => ?_)
                      obtain ⟨bg, ebg⟩ : ∃ z : Int, z = x_8 := ⟨_, rfl⟩
                      refine lv_istore (lv' := [(6, .int (iI x_8)), (0, .ref a0), (1, .int (iI x1)), (2, .int (iI x2)), (3, .int (iI x3)), (4, .int (iI y4_26)), (5, .int (iI y5_59))]) hx hb dX10_laysTaken_79 hl (by decide) rfl (fun ls hl => ?_)
                      refine lv_iload hx hb dX10_laysTaken_81 (lv_at hl 0 rfl) ?_
                      refine lv_aload_n hx hb dX10_laysTaken_83 rfl (lv_at hl 1 rfl) ?_
                      refine lv_iload hx hb dX10_laysTaken_84 (lv_at hl 5 rfl) ?_
                      refine q_iconst hx hb dX10_laysTaken_86 ?_
                      refine q_call_i hA hK hw (va_runV (As := [.int (iI y4_26), .int (iI 2)]) (rest := [.int (iI x_8)]) ⟨hx, hb, hml, hown, hts⟩ (c_X10_get zo l D cy L0 fw59 a0 y4_26 ly4_26 uy4_26 2 (by decide) (by decide) ad hs (by omega) (by omega) (by omega) (by omega) _) (cwV 2 hts (gT (inV (mr25 _ (List.mem_of_getElem? (i := 0) rfl)) (mr25 _ (List.mem_of_getElem? (i := 1) rfl)) (mr25 _ (List.mem_of_getElem? (i := 2) rfl)) (mr1 _ (List.mem_of_getElem? (i := 5) rfl)) (mr25 _ (List.mem_of_getElem? (i := 3) rfl)))) rfl rfl rfl (by decide +kernel) ⟨Nat.le_of_ble_eq_true rfl, Nat.le_of_ble_eq_true rfl⟩) (Wd.preV zo hA hZ hw hK hs.1 hs.2.1 rfl) rfl rfl hl.1 rfl (lv_room (Nat.le_of_ble_eq_true rfl)) dX10_laysTaken_87 ⟨Nat.le_of_ble_eq_true rfl, Nat.le_of_ble_eq_true rfl⟩) (fun x_9 L1 f1 H locs lx_9 ux_9 ex_9 hw => ?_)
                      obtain ⟨rfl, rfl, ex_9⟩ := ex_9
                      have g87 : x_9 = (aI f0 (ad 4) (44 * y4_26 + 2)) := ex_9.trans ((congrFun Q4g _).trans (aI_cg (by omega)))
                      first | refine q_iadd hx hb dX10_laysTaken_90 ⟨by omega, by omega⟩ (fun x_10 lx_10 ux_10 ex_10 => ?_) | refine q_iaddw hx hb dX10_laysTaken_90 (fun x_10 lx_10 ux_10 ex_10 => ?_)
                      obtain ⟨en_, een⟩ : ∃ z : Int, z = x_10 := ⟨_, rfl⟩
                      refine lv_istore (lv' := [(7, .int (iI x_10)), (6, .int (iI x_8)), (0, .ref a0), (1, .int (iI x1)), (2, .int (iI x2)), (3, .int (iI x3)), (4, .int (iI y4_26)), (5, .int (iI y5_59))]) hx hb dX10_laysTaken_91 hl (by decide) rfl (fun ls hl => ?_)
                      refine lv_iload hx hb dX10_laysTaken_93 (lv_at hl 1 rfl) ?_
                      refine lv_iload_n hx hb dX10_laysTaken_95 rfl (lv_at hl 5 rfl) ?_
                      have J147 : ∀ (L : List Nat) (fw147 : Nat → va_E) (hs : MS cy L0 fw147 a0 ad) (hE : Kp a0 ad [11, 12, 13, 25] [] f0 fw147) (u5 : fI fw147 a0 5 = fI f0 a0 5) (qa : ∀ x : Int, aI fw147 (ad 11) x = aI fA (ad 11) x) (n13 : aI fw147 (ad 13) 0 = nl) (ck1 : MK (CK (aI f0 (ad 4)) Os x1 y4_26 x2 (fun i : Int => aI fA (ad 11) i) (aI f0 (ad 4) (44 * y4_26 + 2)) (y5_59 + 1)) x3 (aI fw147 (ad 25))) (H : Heap) (locs : List Loc) (ls : Array Slot) (hw : Wd D A s.heap L0 fw147 H locs) (hl : lv_has ls 9 [(0, .ref a0), (1, .int (iI x1)), (2, .int (iI x2)), (3, .int (iI x3)), (4, .int (iI y4_26)), (5, .int (iI y5_59))]), W p l e ({ frames := 4, cells := 0, slots := 0, locals := 103 } : Room) s m ([.ref a0, .int (iI x1), .int (iI x2), .int (iI x3)] : List Value).toArray below meth c H locs (0 + 0 + 0 + 0) (0 + 0 + 0 + 0) (MQ below (Qv D (tq cy) L0 f0 s.heap.size (fun (L1 : List Nat) (f1 : Nat → va_E) => L0 = L1 ∧ MS cy L0 f1 a0 ad ∧ Kp a0 ad [11, 12, 13, 25] [] f0 f1 ∧ (MK (fun j => cov (OcR (aI f0 (ad 4)) Os x1 (fI f0 a0 5)) (x2 + j)) x3 (aI f1 (ad 25))))) ([.ref a0, .int (iI x1), .int (iI x2), .int (iI x3)] : List Value).toArray s 0 0 A) (F0 m 147 ls []) := by
                        intro L fw147 hs hE u5 qa n13 ck1 H locs ls hw hl
                        obtain ⟨x_11, lx_11, ux_11, hx_11, ex_11⟩ := q_inc y5_59 (1)
                        try (replace ex_11 : x_11 = y5_59 + (1) := by omega)
                        refine lv_iinc (v := iI x_11) (lv' := [(5, .int (iI x_11)), (0, .ref a0), (1, .int (iI x1)), (2, .int (iI x2)), (3, .int (iI x3)), (4, .int (iI y4_26))]) hx hb dX10_laysTaken_147 hl (k := 5) rfl hx_11 (by decide) rfl (fun ls hl => ?_)
                        refine lv_goto (tgt := 59) hx hb dX10_laysTaken_150 (by decide) ?_
                        exact ih59 x_11 lx_11 ux_11 L0 fw147 hs hE (by omega) (by omega) (by omega) (by first | exact qa' | exact qa | exact fun _ => by rw [eA] | fail "none") (by omega) (by first | exact ck0 | exact CK.to ck1 (by omega) | fail "none") (by omega) _ _ _ hw (lv_sub hl [1, 2, 3, 4, 5, 0] rfl)
                      refine q_icmp_ge (tgt := 147) hx hb dX10_laysTaken_96 (by decide) ⟨lx_8, ux_8⟩ ⟨lx3, ux3⟩ (fun c96 => ?_) (fun c96 => ?_)
                      · exact J147 L0 fw59 hs hE (by omega) (by first | exact qa' | exact qa | exact fun _ => by rw [eA] | fail "none") (by omega) (by first | exact CK.skip (b := bg) (e := en_) ck (by omega) g76.symm (by omega) (by omega) (by omega) | exact CJ.done (bg := bg) (e := en_) cj (by omega) g76.symm (by omega) (by omega) (by omega) (by omega) (by omega) | fail "none") _ _ _ hw (lv_sub hl [2, 3, 4, 5, 6, 7] rfl)
                      · refine lv_iload hx hb dX10_laysTaken_99 (lv_at hl 0 rfl) ?_
                        refine q_if_gt (tgt := 107) hx hb dX10_laysTaken_101 (by decide) ⟨lx_10, ux_10⟩ (fun c101 => ?_) (fun c101 => ?_)
                        · refine lv_iload hx hb dX10_laysTaken_107 (lv_at hl 1 rfl) ?_
                          have J118 : ∀ (w0_118 : Int) (lw0_118 : -2147483648 ≤ w0_118) (uw0_118 : w0_118 ≤ 2147483647) (k1 : 0 ≤ w0_118) (kz : (w0_118 = 0 ∧ bg < 0) ∨ (w0_118 = bg ∧ 0 ≤ bg)) (H : Heap) (locs : List Loc) (ls : Array Slot) (hw : Wd D A s.heap L0 fw59 H locs) (hl : lv_has ls 9 [(0, .ref a0), (1, .int (iI x1)), (2, .int (iI x2)), (3, .int (iI x3)), (4, .int (iI y4_26)), (5, .int (iI y5_59)), (7, .int (iI x_10))]), W p l e ({ frames := 4, cells := 0, slots := 0, locals := 103 } : Room) s m ([.ref a0, .int (iI x1), .int (iI x2), .int (iI x3)] : List Value).toArray below meth c H locs (0 + 0 + 0 + 0) (0 + 0 + 0 + 0) (MQ below (Qv D (tq cy) L0 f0 s.heap.size (fun (L1 : List Nat) (f1 : Nat → va_E) => L0 = L1 ∧ MS cy L0 f1 a0 ad ∧ Kp a0 ad [11, 12, 13, 25] [] f0 f1 ∧ (MK (fun j => cov (OcR (aI f0 (ad 4)) Os x1 (fI f0 a0 5)) (x2 + j)) x3 (aI f1 (ad 25))))) ([.ref a0, .int (iI x1), .int (iI x2), .int (iI x3)] : List Value).toArray s 0 0 A) (F0 m 118 ls [.int (iI w0_118)]) := by
                            intro w0_118 lw0_118 uw0_118 k1 kz H locs ls hw hl
                            refine lv_istore (lv' := [(8, .int (iI w0_118)), (0, .ref a0), (1, .int (iI x1)), (2, .int (iI x2)), (3, .int (iI x3)), (4, .int (iI y4_26)), (5, .int (iI y5_59)), (7, .int (iI x_10))]) hx hb dX10_laysTaken_118 hl (by decide) rfl (fun ls hl => ?_)
                            have J120 : ∀ (n120 : Nat) (y8_120 : Int) (ly8_120 : -2147483648 ≤ y8_120) (uy8_120 : y8_120 ≤ 2147483647) (L : List Nat) (fw120 : Nat → va_E) (hs : MS cy L0 fw120 a0 ad) (hE : Kp a0 ad [11, 12, 13, 25] [] f0 fw120) (k1 : 0 ≤ y8_120) (k2 : y8_120 ≤ en_) (k3 : w0_118 ≤ y8_120) (u5 : fI fw120 a0 5 = fI f0 a0 5) (qa : ∀ x : Int, aI fw120 (ad 11) x = aI fA (ad 11) x) (n13 : aI fw120 (ad 13) 0 = nl) (cj : MK (CJ (aI f0 (ad 4)) Os x1 y4_26 x2 (fun i : Int => aI fA (ad 11) i) (aI f0 (ad 4) (44 * y4_26 + 2)) y5_59 w0_118 y8_120) x3 (aI fw120 (ad 25))) (hn120 : ((2147483647 : Int) - y8_120).toNat < n120) (H : Heap) (locs : List Loc) (ls : Array Slot) (hw : Wd D A s.heap L0 fw120 H locs) (hl : lv_has ls 9 [(0, .ref a0), (1, .int (iI x1)), (2, .int (iI x2)), (3, .int (iI x3)), (4, .int (iI y4_26)), (5, .int (iI y5_59)), (7, .int (iI x_10)), (8, .int (iI y8_120))]), W p l e ({ frames := 4, cells := 0, slots := 0, locals := 103 } : Room) s m ([.ref a0, .int (iI x1), .int (iI x2), .int (iI x3)] : List Value).toArray below meth c H locs (0 + 0 + 0 + 0) (0 + 0 + 0 + 0) (MQ below (Qv D (tq cy) L0 f0 s.heap.size (fun (L1 : List Nat) (f1 : Nat → va_E) => L0 = L1 ∧ MS cy L0 f1 a0 ad ∧ Kp a0 ad [11, 12, 13, 25] [] f0 f1 ∧ (MK (fun j => cov (OcR (aI f0 (ad 4)) Os x1 (fI f0 a0 5)) (x2 + j)) x3 (aI f1 (ad 25))))) ([.ref a0, .int (iI x1), .int (iI x2), .int (iI x3)] : List Value).toArray s 0 0 A) (F0 m 120 ls []) := by
                              intro n120
                              induction n120 with
                              | zero => intro y8_120 ly8_120 uy8_120 L fw120 hs hE k1 k2 k3 u5 qa n13 cj hn120; exact absurd hn120 (Nat.not_lt_zero _)
                              | succ n120 ih120 =>
                                intro y8_120 ly8_120 uy8_120 L fw120 hs hE k1 k2 k3 u5 qa n13 cj hn120 H locs ls hw hl
                                refine lv_iload hx hb dX10_laysTaken_120 (lv_at hl 7 rfl) ?_
                                refine lv_iload hx hb dX10_laysTaken_122 (lv_at hl 6 rfl) ?_
                                refine q_icmp_ge (tgt := 147) hx hb dX10_laysTaken_124 (by decide) ⟨ly8_120, uy8_120⟩ ⟨lx_10, ux_10⟩ (fun c124 => ?_) (fun c124 => ?_)
                                · exact J147 L0 fw120 hs hE (by omega) (by first | exact qa' | exact qa | exact fun _ => by rw [eA] | fail "none") (by omega) (by first | exact CK.skip (b := bg) (e := en_) ck (by omega) g76.symm (by omega) (by omega) (by omega) | exact CJ.done (bg := bg) (e := en_) cj (by omega) g76.symm (by omega) (by omega) (by omega) (by omega) (by omega) | fail "none") _ _ _ hw (lv_sub hl [0, 1, 2, 3, 4, 5] rfl)
                                · refine lv_iload hx hb dX10_laysTaken_127 (lv_at hl 7 rfl) ?_
                                  refine lv_iload_n hx hb dX10_laysTaken_129 rfl (lv_at hl 3 rfl) ?_
                                  refine q_icmp_ge (tgt := 147) hx hb dX10_laysTaken_130 (by decide) ⟨ly8_120, uy8_120⟩ ⟨lx3, ux3⟩ (fun c130 => ?_) (fun c130 => ?_)
                                  · exact J147 L0 fw120 hs hE (by omega) (by first | exact qa' | exact qa | exact fun _ => by rw [eA] | fail "none") (by omega) (by first | exact CK.skip (b := bg) (e := en_) ck (by omega) g76.symm (by omega) (by omega) (by omega) | exact CJ.done (bg := bg) (e := en_) cj (by omega) g76.symm (by omega) (by omega) (by omega) (by omega) (by omega) | fail "none") _ _ _ hw (lv_sub hl [0, 1, 2, 3, 4, 5] rfl)
                                  · refine lv_aload_n hx hb dX10_laysTaken_133 rfl (lv_at hl 0 rfl) ?_
                                    refine q_getr (ci := 8) (C := RX10) (T := TX10) (N := 26) hx hb hts (fun w h => List.mem_cons_of_mem _ (mfX100 w h)) hown hK hw hs.1 hs.2.1 rfl 25 (by decide) (hts _ (List.mem_cons_of_mem _ (mr4 _ (List.mem_of_getElem? (i := 2) rfl)))) (fun _ h => h) rfl (hs.2.2.1 25 rfl).1 dX10_laysTaken_134 ?_
                                    refine lv_iload hx hb dX10_laysTaken_137 (lv_at hl 7 rfl) ?_
                                    refine q_iconst hx hb dX10_laysTaken_139 ?_
                                    refine q_zast hx hb hK hw (hs.2.2.1 25 rfl).2.1 2 (hs.2.2.1 25 rfl).2.2 rfl ⟨ly8_120, uy8_120⟩ (by omega) (by show _ < ((90721 : Nat) : Int); omega) dX10_laysTaken_140 (fun H locs hw => ?_)
                                    obtain ⟨f_12, ef_12⟩ : ∃ g : Nat → va_E, g = aU fw120 (ad 25) y8_120 (vp_nar .boolean (iI 1)) := ⟨_, rfl⟩
                                    have t5_f_12 : fI f_12 a0 5 = fI fw120 a0 5 := by rw [ef_12]; exact hs.fI_aU rfl _ _
                                    have hE := hE.trans (show Kp a0 ad [11, 12, 13, 25] [] fw120 f_12 by rw [ef_12]; exact Kp_aU hs rfl (by decide))
                                    have hs_ := hs
                                    have hs : MS cy L0 f_12 a0 ad := by rw [ef_12]; exact MS_aU hs rfl
                                    rw [← ef_12] at hw
                                    have c13_0_f_12 : aI f_12 (ad 13) 0 = aI fw120 (ad 13) 0 := by rw [ef_12]; exact hs_.aI_ne rfl rfl (by decide) _
                                    have cj' : MK (CJ (aI f0 (ad 4)) Os x1 y4_26 x2 (fun i : Int => aI fA (ad 11) i) (aI f0 (ad 4) (44 * y4_26 + 2)) y5_59 w0_118 (y8_120 + 1)) x3 (aI f_12 (ad 25)) := CJ.put cj (by omega) (by rw [ef_12]; exact hs_.aI_self (x := 1) rfl ⟨by decide, by decide⟩) (fun j j0 j1 => by rw [ef_12]; exact hs_.aI_nj rfl (by omega) j0 j1)
                                    have qa' : ∀ x : Int, aI f_12 (ad 11) x = aI fA (ad 11) x := fun x => Eq.trans (by rw [ef_12]; exact hs_.aI_ne rfl rfl (by decide) _) (qa x)
                                    have n13' : aI f_12 (ad 13) 0 = nl := Eq.trans (by rw [ef_12]; exact hs_.aI_ne rfl rfl (by decide) _) n13
                                    obtain ⟨x_13, lx_13, ux_13, hx_13, ex_13⟩ := q_inc y8_120 (1)
                                    try (replace ex_13 : x_13 = y8_120 + (1) := by omega)
                                    refine lv_iinc (v := iI x_13) (lv' := [(8, .int (iI x_13)), (0, .ref a0), (1, .int (iI x1)), (2, .int (iI x2)), (3, .int (iI x3)), (4, .int (iI y4_26)), (5, .int (iI y5_59)), (7, .int (iI x_10))]) hx hb dX10_laysTaken_141 hl (k := 7) rfl hx_13 (by decide) rfl (fun ls hl => ?_)
                                    refine lv_goto (tgt := 120) hx hb dX10_laysTaken_144 (by decide) ?_
                                    exact ih120 x_13 lx_13 ux_13 L0 f_12 hs hE (by omega) (by omega) (by omega) (by omega) (by first | exact qa' | exact qa | exact fun _ => by rw [eA] | fail "none") (by omega) (by first | exact CJ.start ck (by omega) | exact CJ.to cj' (by omega) | fail "none") (by omega) _ _ _ hw (lv_sub hl [1, 2, 3, 4, 5, 6, 7, 0] rfl)
                            exact J120 ((((2147483647 : Int) - w0_118).toNat) + 1) w0_118 lw0_118 uw0_118 L0 fw59 hs hE (by omega) (by omega) (by omega) (by omega) (by first | exact qa' | exact qa | exact fun _ => by rw [eA] | fail "none") (by omega) (by first | exact CJ.start ck (by omega) | exact CJ.to cj' (by omega) | fail "none") (by omega) _ _ _ hw (lv_sub hl [1, 2, 3, 4, 5, 6, 7, 0] rfl)
                          refine q_if_ge (tgt := 116) hx hb dX10_laysTaken_109 (by decide) ⟨lx_8, ux_8⟩ (fun c109 => ?_) (fun c109 => ?_)
                          · refine lv_iload hx hb dX10_laysTaken_116 (lv_at hl 1 rfl) ?_
                            exact J118 x_8 lx_8 ux_8 (by omega) (by omega) _ _ _ hw (lv_sub hl [2, 3, 4, 5, 6, 7, 0] rfl)
                          · refine q_iconst hx hb dX10_laysTaken_112 ?_
                            refine lv_goto (tgt := 118) hx hb dX10_laysTaken_113 (by decide) ?_
                            exact J118 0 (by decide) (by decide) (by omega) (by omega) _ _ _ hw (lv_sub hl [2, 3, 4, 5, 6, 7, 0] rfl)
                        · refine lv_goto (tgt := 147) hx hb dX10_laysTaken_104 (by decide) ?_
                          exact J147 L0 fw59 hs hE (by omega) (by first | exact qa' | exact qa | exact fun _ => by rw [eA] | fail "none") (by omega) (by first | exact CK.skip (b := bg) (e := en_) ck (by omega) g76.symm (by omega) (by omega) (by omega) | exact CJ.done (bg := bg) (e := en_) cj (by omega) g76.symm (by omega) (by omega) (by omega) (by omega) (by omega) | fail "none") _ _ _ hw (lv_sub hl [2, 3, 4, 5, 6, 7] rfl)
                exact J59 ((((2147483647 : Int) - 0).toNat) + 1) 0 (by decide) (by decide) L0 f_5 hs hE (by omega) (by omega) (by omega) (by first | exact qa' | exact qa | exact fun _ => by rw [eA] | fail "none") (by omega) (by first | exact ck0 | exact CK.to ck1 (by omega) | fail "none") (by omega) _ _ _ hw (lv_sub hl [1, 2, 3, 4, 5, 0] rfl)
              · refine lv_goto (tgt := 153) hx hb dX10_laysTaken_46 (by decide) ?_
                exact J153 L0 fw26 hs hE (by omega) (by first | exact mk.skipR (by omega) rfl | exact CK.done ck (by omega) (by omega) rfl ll1 (by omega) rfl | fail "none") _ _ _ hw (lv_sub hl [0, 1, 2, 3, 4] rfl)
        exact J26 ((((2147483647 : Int) - 0).toNat) + 1) 0 (by decide) (by decide) L0 fw3 hs hE (by omega) (by omega) (by omega) (by first | exact MK.zero zz (by omega) (fun j => cov_none (by omega)) | exact mk2.toR (by omega) | fail "none") (by omega) _ _ _ hw (lv_sub hl [1, 2, 3, 4, 0] rfl)
      · refine lv_aload_n hx hb dX10_laysTaken_9 rfl (lv_at hl 0 rfl) ?_
        refine q_getr (ci := 8) (C := RX10) (T := TX10) (N := 26) hx hb hts (fun w h => List.mem_cons_of_mem _ (mfX100 w h)) hown hK hw hs.1 hs.2.1 rfl 25 (by decide) (hts _ (List.mem_cons_of_mem _ (mr4 _ (List.mem_of_getElem? (i := 2) rfl)))) (fun _ h => h) rfl (hs.2.2.1 25 rfl).1 dX10_laysTaken_10 ?_
        refine lv_iload hx hb dX10_laysTaken_13 (lv_at hl 4 rfl) ?_
        refine q_iconst hx hb dX10_laysTaken_15 ?_
        refine q_zast hx hb hK hw (hs.2.2.1 25 rfl).2.1 2 (hs.2.2.1 25 rfl).2.2 rfl ⟨ly4_3, uy4_3⟩ (by omega) (by show _ < ((90721 : Nat) : Int); omega) dX10_laysTaken_16 (fun H locs hw => ?_)
        obtain ⟨f_14, ef_14⟩ : ∃ g : Nat → va_E, g = aU fw3 (ad 25) y4_3 (vp_nar .boolean (iI 0)) := ⟨_, rfl⟩
        have t5_f_14 : fI f_14 a0 5 = fI fw3 a0 5 := by rw [ef_14]; exact hs.fI_aU rfl _ _
        have hE := hE.trans (show Kp a0 ad [11, 12, 13, 25] [] fw3 f_14 by rw [ef_14]; exact Kp_aU hs rfl (by decide))
        have hs_ := hs
        have hs : MS cy L0 f_14 a0 ad := by rw [ef_14]; exact MS_aU hs rfl
        rw [← ef_14] at hw
        have c13_0_f_14 : aI f_14 (ad 13) 0 = aI fw3 (ad 13) 0 := by rw [ef_14]; exact hs_.aI_ne rfl rfl (by decide) _
        have zz' : ∀ j : Int, 0 ≤ j → j < y4_3 + 1 → aI f_14 (ad 25) j = 0 := fun j j0 j1 => (Decidable.em (j = y4_3)).elim (fun q => by rw [q, ef_14]; exact hs_.aI_self (x := 0) rfl ⟨by decide, by decide⟩) (fun q => by rw [ef_14]; exact (hs_.aI_nj rfl (by omega) j0 q).trans (zz j j0 (by omega)))
        obtain ⟨x_15, lx_15, ux_15, hx_15, ex_15⟩ := q_inc y4_3 (1)
        try (replace ex_15 : x_15 = y4_3 + (1) := by omega)
        refine lv_iinc (v := iI x_15) (lv' := [(4, .int (iI x_15)), (0, .ref a0), (1, .int (iI x1)), (2, .int (iI x2)), (3, .int (iI x3))]) hx hb dX10_laysTaken_17 hl (k := 4) rfl hx_15 (by decide) rfl (fun ls hl => ?_)
        refine lv_goto (tgt := 3) hx hb dX10_laysTaken_20 (by decide) ?_
        exact ih3 x_15 lx_15 ux_15 L0 f_14 hs hE (by omega) (by omega) (by first | exact fun j q0 q1 => absurd q1 (by omega) | exact fun j q0 q1 => zz' j q0 (by omega) | fail "none") (by omega) _ _ _ hw (lv_sub hl [1, 2, 3, 4, 0] rfl)
  exact J3 ((((2147483647 : Int) - 0).toNat) + 1) 0 (by decide) (by decide) L0 f0 hs hE (by omega) (by omega) (by first | exact fun j q0 q1 => absurd q1 (by omega) | exact fun j q0 q1 => zz' j q0 (by omega) | fail "none") (by omega) _ _ _ hw (lv_sub hl [1, 2, 3, 4, 0] rfl)
set_option maxHeartbeats 4000000 in
set_option maxRecDepth 100000 in
theorem c_X10_busiest_o {Z : Zt} (zo : Zok Z) (l : Launch) (D : va_G) (cy : Cy) (L0 : List Nat) (f0 : Nat → va_E) (a0 : Nat) (x1 : Int) (lx1 : -2147483648 ≤ x1) (ux1 : x1 ≤ 2147483647) (x2 : Int) (lx2 : -2147483648 ≤ x2) (ux2 : x2 ≤ 2147483647) (x3 : Int) (lx3 : -2147483648 ≤ x3) (ux3 : x3 ≤ 2147483647) (ad : Nat → Nat) (hs : MS cy L0 f0 a0 ad) (hv : MV f0 a0 ad) (hd : DT f0 ad 36525) (mo : MOk f0 a0 ad) (Os : Int → Int → Int) (oms : OMs (aI f0 (ad 4)) (fI f0 a0 5) Os) : Ci Z l yX10_busiest (Cond.code yX10_busiest cX10_busiest 9 (some .int) :: TB) ({ frames := 5, cells := 0, slots := 0, locals := 131 } : Room) 0 0 D (tq cy) [.ref a0, .int (iI x1), .int (iI x2), .int (iI x3)] L0 f0 (fun (r : Int) (L1 : List Nat) (f1 : Nat → va_E) => L0 = L1 ∧ MS cy L0 f1 a0 ad ∧ Kp a0 ad [11, 12, 13, 25] [10] f0 f1 ∧ ((r = -1 ∧ ¬ ((0 ≤ x1 ∧ x1 ≤ 7) ∧ (0 ≤ x2 ∧ x2 ≤ x3 ∧ x3 ≤ 36524 ∧ x3 - x2 < 60))) ∨ ((0 ≤ x1 ∧ x1 ≤ 7) ∧ (0 ≤ x2 ∧ x2 ≤ x3 ∧ x3 ≤ 36524 ∧ x3 - x2 < 60) ∧ BS (wdy (OcR (aI f0 (ad 4)) Os x1 (fI f0 a0 5))) x2 x3 r))) := by
  refine Ci.enter (cc := cX10_busiest) (n := 9) rfl (plainFor_of_name (by decide)) (Nat.le_of_ble_eq_true rfl) ?_
  intro p e s m below meth c ls A hx hb hr hts hown hlocks hnm hml hK hA hAe hw hZ hl
  have hown : s.vm.findClass RX10 = some m.cls := hown
  have hl : lv_has ls 9 [(0, .ref a0), (1, .int (iI x1)), (2, .int (iI x2)), (3, .int (iI x3))] := hl
  have hN : ZN s := (zo.2.2.2.2 _ _ _ hZ).2
  have hE : Kp a0 ad [11, 12, 13, 25] [10] f0 f0 := Kp.refl _ _ _ _ _
  have m5 := hv.1
  have m6 := hv.2.1
  refine lv_aload_n hx hb dX10_busiest_0 rfl (lv_at hl 0 rfl) ?_
  refine q_iconst hx hb dX10_busiest_1 ?_
  refine q_puti (ci := 8) (C := RX10) (T := TX10) (N := 26) hx hb hts (fun w h => List.mem_cons_of_mem _ (mfX100 w h)) hown hK hw hs.1 hs.2.1 rfl 10 (by decide) (hts _ (List.mem_cons_of_mem _ (mr4 _ (List.mem_of_getElem? (i := 19) rfl)))) (fun _ h => h) tyX10 tyX10_ok nmX10 rfl (ty := .int) (by decide +kernel) rfl rfl dX10_busiest_2 (fun H locs hw => ?_)
  obtain ⟨f_1, ef_1⟩ : ∃ g : Nat → va_E, g = pU f0 a0 10 (.int (iI 0)) := ⟨_, rfl⟩
  have v10_f_1 : fI f_1 a0 10 = 0 := by rw [ef_1]; exact fI_pU_self hs.2.1 rfl ⟨by decide, by decide⟩
  have t5_f_1 : fI f_1 a0 5 = fI f0 a0 5 := by rw [ef_1]; exact fI_pU (Or.inr (by decide))
  have hE := hE.trans (show Kp a0 ad [11, 12, 13, 25] [10] f0 f_1 by rw [ef_1]; exact Kp_pU hs (by decide))
  have hs_ := hs
  have hs : MS cy L0 f_1 a0 ad := by rw [ef_1]; exact MS_pU hs rfl
  rw [← ef_1] at hw
  have hv1 : MV f_1 a0 ad := hv.kp (show Kp a0 ad [] [10] f0 f_1 by rw [ef_1]; exact Kp_pU hs_ (by decide)) (by decide) (by decide)
  have Q4a : aI f_1 (ad 4) = aI f0 (ad 4) := funext fun x => by rw [ef_1]; exact hs_.aI_pU _ x
  refine lv_iload_n hx hb dX10_busiest_5 rfl (lv_at hl 1 rfl) ?_
  refine q_iconst hx hb dX10_busiest_6 ?_
  refine q_bipush hx hb dX10_busiest_7 rfl ?_
  refine q_call_i hA hK hw (va_runS (As := [.int (iI x1), .int (iI 0), .int (iI 7)]) (rest := []) ⟨hx, hb, hml, hown, hts⟩ (c_X10_within zo l D cy L0 f_1 x1 lx1 ux1 0 (by decide) (by decide) 7 (by decide) (by decide) _) (va_cwS 3 hts (gT (inS (mr5 _ (List.mem_of_getElem? (i := 9) rfl)) (mr5 _ (List.mem_of_getElem? (i := 10) rfl)) (mr1 _ (List.mem_of_getElem? (i := 5) rfl)) (mr5 _ (List.mem_of_getElem? (i := 11) rfl)))) rfl rfl rfl (by decide +kernel) ⟨Nat.le_of_ble_eq_true rfl, Nat.le_of_ble_eq_true rfl⟩) (Wd.preS zo hA hZ hw hK) rfl rfl hl.1 rfl (lv_room (Nat.le_of_ble_eq_true rfl)) dX10_busiest_9 ⟨Nat.le_of_ble_eq_true rfl, Nat.le_of_ble_eq_true rfl⟩) (fun x_2 L1 f1 H locs lx_2 ux_2 ex_2 hw => ?_)
  obtain ⟨rfl, rfl, ex_2⟩ := ex_2
  refine q_if_eq (tgt := 42) hx hb dX10_busiest_12 (by decide) ⟨lx_2, ux_2⟩ (fun c12 => ?_) (fun c12 => ?_)
  · refine q_iconst hx hb dX10_busiest_42 ?_
    exact q_ret_i hx hb hr hlocks hK hAe hw ⟨by decide, by decide⟩ (Nat.le_of_ble_eq_true rfl) (Nat.le_of_ble_eq_true rfl) dX10_busiest_43 (by exact ⟨rfl, hs, hE, Or.inl ⟨by omega, by omega⟩⟩)
  · refine lv_iload_n hx hb dX10_busiest_15 rfl (lv_at hl 2 rfl) ?_
    refine q_call_i hA hK hw (va_runS (As := [.int (iI x2)]) (rest := []) ⟨hx, hb, hml, hown, hts⟩ (c_X10_isDay zo l D cy L0 f_1 x2 lx2 ux2 _) (va_cwS 1 hts (gT (inS (mr23 _ (List.mem_of_getElem? (i := 21) rfl)) (mr23 _ (List.mem_of_getElem? (i := 22) rfl)) (mr1 _ (List.mem_of_getElem? (i := 5) rfl)) (mr23 _ (List.mem_of_getElem? (i := 23) rfl)))) rfl rfl rfl (by decide +kernel) ⟨Nat.le_of_ble_eq_true rfl, Nat.le_of_ble_eq_true rfl⟩) (Wd.preS zo hA hZ hw hK) rfl rfl hl.1 rfl (lv_room (Nat.le_of_ble_eq_true rfl)) dX10_busiest_16 ⟨Nat.le_of_ble_eq_true rfl, Nat.le_of_ble_eq_true rfl⟩) (fun x_3 L1 f1 H locs lx_3 ux_3 ex_3 hw => ?_)
    obtain ⟨rfl, rfl, ex_3⟩ := ex_3
    refine q_if_eq (tgt := 42) hx hb dX10_busiest_19 (by decide) ⟨lx_3, ux_3⟩ (fun c19 => ?_) (fun c19 => ?_)
    · refine q_iconst hx hb dX10_busiest_42 ?_
      exact q_ret_i hx hb hr hlocks hK hAe hw ⟨by decide, by decide⟩ (Nat.le_of_ble_eq_true rfl) (Nat.le_of_ble_eq_true rfl) dX10_busiest_43 (by exact ⟨rfl, hs, hE, Or.inl ⟨by omega, by omega⟩⟩)
    · refine lv_iload_n hx hb dX10_busiest_22 rfl (lv_at hl 3 rfl) ?_
      refine q_call_i hA hK hw (va_runS (As := [.int (iI x3)]) (rest := []) ⟨hx, hb, hml, hown, hts⟩ (c_X10_isDay zo l D cy L0 f_1 x3 lx3 ux3 _) (va_cwS 1 hts (gT (inS (mr23 _ (List.mem_of_getElem? (i := 21) rfl)) (mr23 _ (List.mem_of_getElem? (i := 22) rfl)) (mr1 _ (List.mem_of_getElem? (i := 5) rfl)) (mr23 _ (List.mem_of_getElem? (i := 23) rfl)))) rfl rfl rfl (by decide +kernel) ⟨Nat.le_of_ble_eq_true rfl, Nat.le_of_ble_eq_true rfl⟩) (Wd.preS zo hA hZ hw hK) rfl rfl hl.1 rfl (lv_room (Nat.le_of_ble_eq_true rfl)) dX10_busiest_23 ⟨Nat.le_of_ble_eq_true rfl, Nat.le_of_ble_eq_true rfl⟩) (fun x_4 L1 f1 H locs lx_4 ux_4 ex_4 hw => ?_)
      obtain ⟨rfl, rfl, ex_4⟩ := ex_4
      refine q_if_eq (tgt := 42) hx hb dX10_busiest_26 (by decide) ⟨lx_4, ux_4⟩ (fun c26 => ?_) (fun c26 => ?_)
      · refine q_iconst hx hb dX10_busiest_42 ?_
        exact q_ret_i hx hb hr hlocks hK hAe hw ⟨by decide, by decide⟩ (Nat.le_of_ble_eq_true rfl) (Nat.le_of_ble_eq_true rfl) dX10_busiest_43 (by exact ⟨rfl, hs, hE, Or.inl ⟨by omega, by omega⟩⟩)
      · refine lv_iload_n hx hb dX10_busiest_29 rfl (lv_at hl 3 rfl) ?_
        refine lv_iload_n hx hb dX10_busiest_30 rfl (lv_at hl 2 rfl) ?_
        refine q_icmp_lt (tgt := 42) hx hb dX10_busiest_31 (by decide) ⟨lx3, ux3⟩ ⟨lx2, ux2⟩ (fun c31 => ?_) (fun c31 => ?_)
        · refine q_iconst hx hb dX10_busiest_42 ?_
          exact q_ret_i hx hb hr hlocks hK hAe hw ⟨by decide, by decide⟩ (Nat.le_of_ble_eq_true rfl) (Nat.le_of_ble_eq_true rfl) dX10_busiest_43 (by exact ⟨rfl, hs, hE, Or.inl ⟨by omega, by omega⟩⟩)
        · refine lv_iload_n hx hb dX10_busiest_34 rfl (lv_at hl 3 rfl) ?_
          refine lv_iload_n hx hb dX10_busiest_35 rfl (lv_at hl 2 rfl) ?_
          first | refine q_isub hx hb dX10_busiest_36 ⟨by omega, by omega⟩ (fun x_5 lx_5 ux_5 ex_5 => ?_) | refine q_isubw hx hb dX10_busiest_36 (fun x_5 lx_5 ux_5 ex_5 => ?_)
          refine q_bipush hx hb dX10_busiest_37 rfl ?_
          refine q_icmp_le (tgt := 44) hx hb dX10_busiest_39 (by decide) ⟨lx_5, ux_5⟩ ⟨by decide, by decide⟩ (fun c39 => ?_) (fun c39 => ?_)
          · refine lv_aload_n hx hb dX10_busiest_44 rfl (lv_at hl 0 rfl) ?_
            refine lv_iload_n hx hb dX10_busiest_45 rfl (lv_at hl 1 rfl) ?_
            refine q_sipush hx hb dX10_busiest_46 rfl ?_
            refine lv_iload_n hx hb dX10_busiest_49 rfl (lv_at hl 2 rfl) ?_
            first | refine q_imul hx hb dX10_busiest_50 ⟨by omega, by omega⟩ (fun x_6 lx_6 ux_6 ex_6 => ?_) | refine q_imulw hx hb dX10_busiest_50 (fun x_6 lx_6 ux_6 ex_6 => ?_)
            refine q_sipush hx hb dX10_busiest_51 rfl ?_
            refine lv_iload_n hx hb dX10_busiest_54 rfl (lv_at hl 3 rfl) ?_
            refine lv_iload_n hx hb dX10_busiest_55 rfl (lv_at hl 2 rfl) ?_
            first | refine q_isub hx hb dX10_busiest_56 ⟨by omega, by omega⟩ (fun x_7 lx_7 ux_7 ex_7 => ?_) | refine q_isubw hx hb dX10_busiest_56 (fun x_7 lx_7 ux_7 ex_7 => ?_)
            refine q_iconst hx hb dX10_busiest_57 ?_
            first | refine q_iadd hx hb dX10_busiest_58 ⟨by omega, by omega⟩ (fun x_8 lx_8 ux_8 ex_8 => ?_) | refine q_iaddw hx hb dX10_busiest_58 (fun x_8 lx_8 ux_8 ex_8 => ?_)
            first | refine q_imul hx hb dX10_busiest_59 ⟨by omega, by omega⟩ (fun x_9 lx_9 ux_9 ex_9 => ?_) | refine q_imulw hx hb dX10_busiest_59 (fun x_9 lx_9 ux_9 ex_9 => ?_)
            refine q_call_v hA hK hw (va_runV (As := [.int (iI x1), .int (iI x_6), .int (iI x_9)]) (rest := []) ⟨hx, hb, hml, hown, hts⟩ (c_X10_laysTaken_o zo l D cy L0 f_1 a0 x1 lx1 ux1 x_6 lx_6 ux_6 x_9 lx_9 ux_9 ad hs hv1 (by first | exact hd | exact hd.kp hE (by decide) (by decide) (by decide) (by decide)) (by first | exact mo | exact mo.kp hE (by decide) (by decide)) Os (oms.cg Q4a (by omega)) (by omega) (by omega) (by omega) _) (cwV 3 hts (gT (inV (mr38 _ (List.mem_of_getElem? (i := 23) rfl)) (mr39 _ (List.mem_of_getElem? (i := 0) rfl)) (mr39 _ (List.mem_of_getElem? (i := 1) rfl)) (mr1 _ (List.mem_of_getElem? (i := 5) rfl)) (mr39 _ (List.mem_of_getElem? (i := 2) rfl)))) rfl rfl rfl (by decide +kernel) ⟨Nat.le_of_ble_eq_true rfl, Nat.le_of_ble_eq_true rfl⟩) (Wd.preV zo hA hZ hw hK hs.1 hs.2.1 rfl) rfl rfl hl.1 rfl (lv_room (Nat.le_of_ble_eq_true rfl)) dX10_busiest_60 ⟨Nat.le_of_ble_eq_true rfl, Nat.le_of_ble_eq_true rfl⟩) (fun L1 f_11 H locs ex_10 hw => ?_)
            obtain ⟨rfl, hs, hX, ex_10⟩ := ex_10
            have hE := hE.trans (hX.mono (rs' := [11, 12, 13, 25]) (fs' := [10]) (by decide) (by decide))
            have t5_f_11 : fI f_11 a0 5 = fI f_1 a0 5 := hX.2 5 (by decide)
            have mk0 : MK (fun j => cov (OcR (aI f0 (ad 4)) Os x1 (fI f0 a0 5)) (1440 * x2 + j)) (1440 * (x3 - x2 + 1)) (aI f_11 (ad 25)) := ex_10.mv Q4a (by omega) (by omega) (by omega)
            refine lv_iload_n hx hb dX10_busiest_63 rfl (lv_at hl 2 rfl) ?_
            refine lv_istore (lv' := [(4, .int (iI x2)), (0, .ref a0), (1, .int (iI x1)), (2, .int (iI x2)), (3, .int (iI x3))]) hx hb dX10_busiest_64 hl (by decide) rfl (fun ls hl => ?_)
            refine q_iconst hx hb dX10_busiest_66 ?_
            refine lv_istore (lv' := [(5, .int (iI ((-1)))), (4, .int (iI x2)), (0, .ref a0), (1, .int (iI x1)), (2, .int (iI x2)), (3, .int (iI x3))]) hx hb dX10_busiest_67 hl (by decide) rfl (fun ls hl => ?_)
            refine lv_iload_n hx hb dX10_busiest_69 rfl (lv_at hl 4 rfl) ?_
            refine lv_istore (lv' := [(6, .int (iI x2)), (5, .int (iI ((-1)))), (4, .int (iI x2)), (0, .ref a0), (1, .int (iI x1)), (2, .int (iI x2)), (3, .int (iI x3))]) hx hb dX10_busiest_70 hl (by decide) rfl (fun ls hl => ?_)
            have J72 : ∀ (n72 : Nat) (y4_72 : Int) (ly4_72 : -2147483648 ≤ y4_72) (uy4_72 : y4_72 ≤ 2147483647) (y5_72 : Int) (ly5_72 : -2147483648 ≤ y5_72) (uy5_72 : y5_72 ≤ 2147483647) (y6_72 : Int) (ly6_72 : -2147483648 ≤ y6_72) (uy6_72 : y6_72 ≤ 2147483647) (i1 : x2 ≤ y6_72) (i2 : y6_72 ≤ x3 + 1) (mk : MK (fun j => cov (OcR (aI f0 (ad 4)) Os x1 (fI f0 a0 5)) (1440 * x2 + j)) (1440 * (x3 - x2 + 1)) (aI f_11 (ad 25))) (bt : BT2 (wdy (OcR (aI f0 (ad 4)) Os x1 (fI f0 a0 5))) (-1) x2 y6_72 y4_72 y5_72) (hn72 : ((2147483647 : Int) - y6_72).toNat < n72) (H : Heap) (locs : List Loc) (ls : Array Slot) (hw : Wd D A s.heap L0 f_11 H locs) (hl : lv_has ls 9 [(0, .ref a0), (2, .int (iI x2)), (3, .int (iI x3)), (4, .int (iI y4_72)), (5, .int (iI y5_72)), (6, .int (iI y6_72))]), W p l e ({ frames := 5, cells := 0, slots := 0, locals := 131 } : Room) s m ([.ref a0, .int (iI x1), .int (iI x2), .int (iI x3)] : List Value).toArray below meth c H locs (0 + 0 + 0 + 0 + 0) (0 + 0 + 0 + 0 + 0) (MQ below (Qi D (tq cy) L0 f0 s.heap.size (fun (r : Int) (L1 : List Nat) (f1 : Nat → va_E) => L0 = L1 ∧ MS cy L0 f1 a0 ad ∧ Kp a0 ad [11, 12, 13, 25] [10] f0 f1 ∧ ((r = -1 ∧ ¬ ((0 ≤ x1 ∧ x1 ≤ 7) ∧ (0 ≤ x2 ∧ x2 ≤ x3 ∧ x3 ≤ 36524 ∧ x3 - x2 < 60))) ∨ ((0 ≤ x1 ∧ x1 ≤ 7) ∧ (0 ≤ x2 ∧ x2 ≤ x3 ∧ x3 ≤ 36524 ∧ x3 - x2 < 60) ∧ BS (wdy (OcR (aI f0 (ad 4)) Os x1 (fI f0 a0 5))) x2 x3 r)))) ([.ref a0, .int (iI x1), .int (iI x2), .int (iI x3)] : List Value).toArray s 0 0 A) (F0 m 72 ls []) := by
              intro n72
              induction n72 with
              | zero => intro y4_72 ly4_72 uy4_72 y5_72 ly5_72 uy5_72 y6_72 ly6_72 uy6_72 i1 i2 mk bt hn72; exact absurd hn72 (Nat.not_lt_zero _)
              | succ n72 ih72 =>
                intro y4_72 ly4_72 uy4_72 y5_72 ly5_72 uy5_72 y6_72 ly6_72 uy6_72 i1 i2 mk bt hn72 H locs ls hw hl
                refine lv_iload hx hb dX10_busiest_72 (lv_at hl 5 rfl) ?_
                refine lv_iload_n hx hb dX10_busiest_74 rfl (lv_at hl 2 rfl) ?_
                refine q_icmp_gt (tgt := 144) hx hb dX10_busiest_75 (by decide) ⟨ly6_72, uy6_72⟩ ⟨lx3, ux3⟩ (fun c75 => ?_) (fun c75 => ?_)
                · refine lv_iload hx hb dX10_busiest_144 (lv_at hl 3 rfl) ?_
                  exact q_ret_i hx hb hr hlocks hK hAe hw ⟨ly4_72, uy4_72⟩ (Nat.le_of_ble_eq_true rfl) (Nat.le_of_ble_eq_true rfl) dX10_busiest_146 (by exact ⟨rfl, hs, hE, Or.inr ⟨⟨by omega, by omega⟩, ⟨by omega, by omega, by omega, by omega⟩, bt.out (by omega) (fun _ => wdy_rg.1) (by omega) (by omega)⟩⟩)
                · refine q_iconst hx hb dX10_busiest_78 ?_
                  refine lv_istore (lv' := [(7, .int (iI 0)), (0, .ref a0), (2, .int (iI x2)), (3, .int (iI x3)), (4, .int (iI y4_72)), (5, .int (iI y5_72)), (6, .int (iI y6_72))]) hx hb dX10_busiest_79 hl (by decide) rfl (fun ls hl => ?_)
                  refine q_iconst hx hb dX10_busiest_81 ?_
                  refine lv_istore (lv' := [(8, .int (iI 0)), (7, .int (iI 0)), (0, .ref a0), (2, .int (iI x2)), (3, .int (iI x3)), (4, .int (iI y4_72)), (5, .int (iI y5_72)), (6, .int (iI y6_72))]) hx hb dX10_busiest_82 hl (by decide) rfl (fun ls hl => ?_)
                  have J84 : ∀ (n84 : Nat) (y7_84 : Int) (ly7_84 : -2147483648 ≤ y7_84) (uy7_84 : y7_84 ≤ 2147483647) (y8_84 : Int) (ly8_84 : -2147483648 ≤ y8_84) (uy8_84 : y8_84 ≤ 2147483647) (j1 : 0 ≤ y8_84) (j2 : y8_84 ≤ 1440) (c0 : 0 ≤ y7_84) (c1 : y7_84 ≤ y8_84) (mk : MK (fun j => cov (OcR (aI f0 (ad 4)) Os x1 (fI f0 a0 5)) (1440 * x2 + j)) (1440 * (x3 - x2 + 1)) (aI f_11 (ad 25))) (cc : y7_84 = cn (fun j => cov (OcR (aI f0 (ad 4)) Os x1 (fI f0 a0 5)) (1440 * x2 + (1440 * (y6_72 - x2) + j))) 0 y8_84) (hn84 : ((2147483647 : Int) - y8_84).toNat < n84) (H : Heap) (locs : List Loc) (ls : Array Slot) (hw : Wd D A s.heap L0 f_11 H locs) (hl : lv_has ls 9 [(0, .ref a0), (2, .int (iI x2)), (3, .int (iI x3)), (4, .int (iI y4_72)), (5, .int (iI y5_72)), (6, .int (iI y6_72)), (7, .int (iI y7_84)), (8, .int (iI y8_84))]), W p l e ({ frames := 5, cells := 0, slots := 0, locals := 131 } : Room) s m ([.ref a0, .int (iI x1), .int (iI x2), .int (iI x3)] : List Value).toArray below meth c H locs (0 + 0 + 0 + 0 + 0) (0 + 0 + 0 + 0 + 0) (MQ below (Qi D (tq cy) L0 f0 s.heap.size (fun (r : Int) (L1 : List Nat) (f1 : Nat → va_E) => L0 = L1 ∧ MS cy L0 f1 a0 ad ∧ Kp a0 ad [11, 12, 13, 25] [10] f0 f1 ∧ ((r = -1 ∧ ¬ ((0 ≤ x1 ∧ x1 ≤ 7) ∧ (0 ≤ x2 ∧ x2 ≤ x3 ∧ x3 ≤ 36524 ∧ x3 - x2 < 60))) ∨ ((0 ≤ x1 ∧ x1 ≤ 7) ∧ (0 ≤ x2 ∧ x2 ≤ x3 ∧ x3 ≤ 36524 ∧ x3 - x2 < 60) ∧ BS (wdy (OcR (aI f0 (ad 4)) Os x1 (fI f0 a0 5))) x2 x3 r)))) ([.ref a0, .int (iI x1), .int (iI x2), .int (iI x3)] : List Value).toArray s 0 0 A) (F0 m 84 ls []) := by
                    intro n84
                    induction n84 with
                    | zero => intro y7_84 ly7_84 uy7_84 y8_84 ly8_84 uy8_84 j1 j2 c0 c1 mk cc hn84; exact absurd hn84 (Nat.not_lt_zero _)
                    | succ n84 ih84 =>
                      intro y7_84 ly7_84 uy7_84 y8_84 ly8_84 uy8_84 j1 j2 c0 c1 mk cc hn84 H locs ls hw hl
                      refine lv_iload hx hb dX10_busiest_84 (lv_at hl 7 rfl) ?_
                      refine q_sipush hx hb dX10_busiest_86 rfl ?_
                      refine q_icmp_ge (tgt := 120) hx hb dX10_busiest_89 (by decide) ⟨ly8_84, uy8_84⟩ ⟨by decide, by decide⟩ (fun c89 => ?_) (fun c89 => ?_)
                      · refine lv_iload hx hb dX10_busiest_120 (lv_at hl 6 rfl) ?_
                        refine lv_iload hx hb dX10_busiest_122 (lv_at hl 4 rfl) ?_
                        have J138 : ∀ (z4_138 : Int) (lz4_138 : -2147483648 ≤ z4_138) (uz4_138 : z4_138 ≤ 2147483647) (z5_138 : Int) (lz5_138 : -2147483648 ≤ z5_138) (uz5_138 : z5_138 ≤ 2147483647) (bt1 : BT2 (wdy (OcR (aI f0 (ad 4)) Os x1 (fI f0 a0 5))) (-1) x2 (y6_72 + 1) z4_138 z5_138) (H : Heap) (locs : List Loc) (ls : Array Slot) (hw : Wd D A s.heap L0 f_11 H locs) (hl : lv_has ls 9 [(0, .ref a0), (2, .int (iI x2)), (3, .int (iI x3)), (4, .int (iI z4_138)), (5, .int (iI z5_138)), (6, .int (iI y6_72))]), W p l e ({ frames := 5, cells := 0, slots := 0, locals := 131 } : Room) s m ([.ref a0, .int (iI x1), .int (iI x2), .int (iI x3)] : List Value).toArray below meth c H locs (0 + 0 + 0 + 0 + 0) (0 + 0 + 0 + 0 + 0) (MQ below (Qi D (tq cy) L0 f0 s.heap.size (fun (r : Int) (L1 : List Nat) (f1 : Nat → va_E) => L0 = L1 ∧ MS cy L0 f1 a0 ad ∧ Kp a0 ad [11, 12, 13, 25] [10] f0 f1 ∧ ((r = -1 ∧ ¬ ((0 ≤ x1 ∧ x1 ≤ 7) ∧ (0 ≤ x2 ∧ x2 ≤ x3 ∧ x3 ≤ 36524 ∧ x3 - x2 < 60))) ∨ ((0 ≤ x1 ∧ x1 ≤ 7) ∧ (0 ≤ x2 ∧ x2 ≤ x3 ∧ x3 ≤ 36524 ∧ x3 - x2 < 60) ∧ BS (wdy (OcR (aI f0 (ad 4)) Os x1 (fI f0 a0 5))) x2 x3 r)))) ([.ref a0, .int (iI x1), .int (iI x2), .int (iI x3)] : List Value).toArray s 0 0 A) (F0 m 138 ls []) := by
                          intro z4_138 lz4_138 uz4_138 z5_138 lz5_138 uz5_138 bt1 H locs ls hw hl
                          obtain ⟨x_12, lx_12, ux_12, hx_12, ex_12⟩ := q_inc y6_72 (1)
                          try (replace ex_12 : x_12 = y6_72 + (1) := by omega)
                          refine lv_iinc (v := iI x_12) (lv' := [(6, .int (iI x_12)), (0, .ref a0), (2, .int (iI x2)), (3, .int (iI x3)), (4, .int (iI z4_138)), (5, .int (iI z5_138))]) hx hb dX10_busiest_138 hl (k := 5) rfl hx_12 (by decide) rfl (fun ls hl => ?_)
                          refine lv_goto (tgt := 72) hx hb dX10_busiest_141 (by decide) ?_
                          exact ih72 z4_138 lz4_138 uz4_138 z5_138 lz5_138 uz5_138 x_12 lx_12 ux_12 (by omega) (by omega) (by first | exact mk0 | exact mk | fail "none") (by first | exact BT2.start (by omega) (by omega) (by omega) | exact bt1.to (by omega) | fail "none") (by omega) _ _ _ hw (lv_sub hl [1, 2, 3, 4, 5, 0] rfl)
                        refine q_icmp_gt (tgt := 130) hx hb dX10_busiest_124 (by decide) ⟨ly7_84, uy7_84⟩ ⟨ly5_72, uy5_72⟩ (fun c124 => ?_) (fun c124 => ?_)
                        · refine lv_iload hx hb dX10_busiest_130 (lv_at hl 6 rfl) ?_
                          refine lv_istore (lv' := [(5, .int (iI y7_84)), (0, .ref a0), (2, .int (iI x2)), (3, .int (iI x3)), (4, .int (iI y4_72)), (6, .int (iI y6_72)), (7, .int (iI y7_84)), (8, .int (iI y8_84))]) hx hb dX10_busiest_132 hl (by decide) rfl (fun ls hl => ?_)
                          refine lv_iload hx hb dX10_busiest_134 (lv_at hl 5 rfl) ?_
                          refine lv_istore (lv' := [(4, .int (iI y6_72)), (5, .int (iI y7_84)), (0, .ref a0), (2, .int (iI x2)), (3, .int (iI x3)), (6, .int (iI y6_72)), (7, .int (iI y7_84)), (8, .int (iI y8_84))]) hx hb dX10_busiest_136 hl (by decide) rfl (fun ls hl => ?_)
                          exact J138 y6_72 ly6_72 uy6_72 y7_84 ly7_84 uy7_84 (by first | exact bt.no (wd_cn (cn_to cc (by omega)) (by omega)) (by omega) rfl | exact bt.yes (by omega) (wd_cn (cn_to cc (by omega)) (by omega)) (by omega) rfl (by omega) | fail "none") _ _ _ hw (lv_sub hl [2, 3, 4, 0, 1, 5] rfl)
                        · refine lv_goto (tgt := 138) hx hb dX10_busiest_127 (by decide) ?_
                          exact J138 y4_72 ly4_72 uy4_72 y5_72 ly5_72 uy5_72 (by first | exact bt.no (wd_cn (cn_to cc (by omega)) (by omega)) (by omega) rfl | exact bt.yes (by omega) (wd_cn (cn_to cc (by omega)) (by omega)) (by omega) rfl (by omega) | fail "none") _ _ _ hw (lv_sub hl [0, 1, 2, 3, 4, 5] rfl)
                      · refine lv_aload_n hx hb dX10_busiest_92 rfl (lv_at hl 0 rfl) ?_
                        refine q_getr (ci := 8) (C := RX10) (T := TX10) (N := 26) hx hb hts (fun w h => List.mem_cons_of_mem _ (mfX100 w h)) hown hK hw hs.1 hs.2.1 rfl 25 (by decide) (hts _ (List.mem_cons_of_mem _ (mr4 _ (List.mem_of_getElem? (i := 2) rfl)))) (fun _ h => h) rfl (hs.2.2.1 25 rfl).1 dX10_busiest_93 ?_
                        refine q_sipush hx hb dX10_busiest_96 rfl ?_
                        refine lv_iload hx hb dX10_busiest_99 (lv_at hl 5 rfl) ?_
                        refine lv_iload_n hx hb dX10_busiest_101 rfl (lv_at hl 1 rfl) ?_
                        first | refine q_isub hx hb dX10_busiest_102 ⟨by omega, by omega⟩ (fun x_13 lx_13 ux_13 ex_13 => ?_) | refine q_isubw hx hb dX10_busiest_102 (fun x_13 lx_13 ux_13 ex_13 => ?_)
                        first | refine q_imul hx hb dX10_busiest_103 ⟨by omega, by omega⟩ (fun x_14 lx_14 ux_14 ex_14 => ?_) | refine q_imulw hx hb dX10_busiest_103 (fun x_14 lx_14 ux_14 ex_14 => ?_)
                        refine lv_iload hx hb dX10_busiest_104 (lv_at hl 7 rfl) ?_
                        first | refine q_iadd hx hb dX10_busiest_106 ⟨by omega, by omega⟩ (fun x_15 lx_15 ux_15 ex_15 => ?_) | refine q_iaddw hx hb dX10_busiest_106 (fun x_15 lx_15 ux_15 ex_15 => ?_)
                        refine q_zald hx hb hK hw (hs.2.2.1 25 rfl).2.1 2 (hs.2.2.1 25 rfl).2.2 rfl ⟨lx_15, ux_15⟩ (by omega) (by show _ < ((90721 : Nat) : Int); omega) dX10_busiest_107 (fun x_16 lx_16 ux_16 ex_16 => ?_)
                        have b107 := mk.b (j := 1440 * (y6_72 - x2) + y8_84) (by omega) (by omega) (ex_16.trans (aI_cg (by omega)))
                        have J114 : ∀ (z7_114 : Int) (lz7_114 : -2147483648 ≤ z7_114) (uz7_114 : z7_114 ≤ 2147483647) (k4 : 0 ≤ z7_114) (k5 : z7_114 ≤ y8_84 + 1) (k1 : z7_114 = cn (fun j => cov (OcR (aI f0 (ad 4)) Os x1 (fI f0 a0 5)) (1440 * x2 + (1440 * (y6_72 - x2) + j))) 0 (y8_84 + 1)) (H : Heap) (locs : List Loc) (ls : Array Slot) (hw : Wd D A s.heap L0 f_11 H locs) (hl : lv_has ls 9 [(0, .ref a0), (2, .int (iI x2)), (3, .int (iI x3)), (4, .int (iI y4_72)), (5, .int (iI y5_72)), (6, .int (iI y6_72)), (7, .int (iI z7_114)), (8, .int (iI y8_84))]), W p l e ({ frames := 5, cells := 0, slots := 0, locals := 131 } : Room) s m ([.ref a0, .int (iI x1), .int (iI x2), .int (iI x3)] : List Value).toArray below meth c H locs (0 + 0 + 0 + 0 + 0) (0 + 0 + 0 + 0 + 0) (MQ below (Qi D (tq cy) L0 f0 s.heap.size (fun (r : Int) (L1 : List Nat) (f1 : Nat → va_E) => L0 = L1 ∧ MS cy L0 f1 a0 ad ∧ Kp a0 ad [11, 12, 13, 25] [10] f0 f1 ∧ ((r = -1 ∧ ¬ ((0 ≤ x1 ∧ x1 ≤ 7) ∧ (0 ≤ x2 ∧ x2 ≤ x3 ∧ x3 ≤ 36524 ∧ x3 - x2 < 60))) ∨ ((0 ≤ x1 ∧ x1 ≤ 7) ∧ (0 ≤ x2 ∧ x2 ≤ x3 ∧ x3 ≤ 36524 ∧ x3 - x2 < 60) ∧ BS (wdy (OcR (aI f0 (ad 4)) Os x1 (fI f0 a0 5))) x2 x3 r)))) ([.ref a0, .int (iI x1), .int (iI x2), .int (iI x3)] : List Value).toArray s 0 0 A) (F0 m 114 ls []) := by
                          intro z7_114 lz7_114 uz7_114 k4 k5 k1 H locs ls hw hl
                          obtain ⟨x_17, lx_17, ux_17, hx_17, ex_17⟩ := q_inc y8_84 (1)
                          try (replace ex_17 : x_17 = y8_84 + (1) := by omega)
                          refine lv_iinc (v := iI x_17) (lv' := [(8, .int (iI x_17)), (0, .ref a0), (2, .int (iI x2)), (3, .int (iI x3)), (4, .int (iI y4_72)), (5, .int (iI y5_72)), (6, .int (iI y6_72)), (7, .int (iI z7_114))]) hx hb dX10_busiest_114 hl (k := 7) rfl hx_17 (by decide) rfl (fun ls hl => ?_)
                          refine lv_goto (tgt := 84) hx hb dX10_busiest_117 (by decide) ?_
                          exact ih84 z7_114 lz7_114 uz7_114 x_17 lx_17 ux_17 (by omega) (by omega) (by omega) (by omega) (by exact mk) (by first | exact (cn_le (by omega)).symm | exact cn_to k1 (by omega) | fail "none") (by omega) _ _ _ hw (lv_sub hl [1, 2, 3, 4, 5, 6, 7, 0] rfl)
                        refine q_if_eq (tgt := 114) hx hb dX10_busiest_108 (by decide) ⟨lx_16, ux_16⟩ (fun c108 => ?_) (fun c108 => ?_)
                        · exact J114 y7_84 ly7_84 uy7_84 (by omega) (by omega) (by first | exact ct_step cc (by omega) rfl (Or.inl ⟨(b107.resolve_right (fun z => by omega)).2, by omega⟩) | exact ct_step cc (by omega) rfl (Or.inr ⟨(b107.resolve_left (fun z => by omega)).2, by omega⟩) | fail "none") _ _ _ hw (lv_sub hl [0, 1, 2, 3, 4, 5, 6, 7] rfl)
                        · obtain ⟨x_18, lx_18, ux_18, hx_18, ex_18⟩ := q_inc y7_84 (1)
                          try (replace ex_18 : x_18 = y7_84 + (1) := by omega)
                          refine lv_iinc (v := iI x_18) (lv' := [(7, .int (iI x_18)), (0, .ref a0), (2, .int (iI x2)), (3, .int (iI x3)), (4, .int (iI y4_72)), (5, .int (iI y5_72)), (6, .int (iI y6_72)), (8, .int (iI y8_84))]) hx hb dX10_busiest_111 hl (k := 6) rfl hx_18 (by decide) rfl (fun ls hl => ?_)
                          exact J114 x_18 lx_18 ux_18 (by omega) (by omega) (by first | exact ct_step cc (by omega) rfl (Or.inl ⟨(b107.resolve_right (fun z => by omega)).2, by omega⟩) | exact ct_step cc (by omega) rfl (Or.inr ⟨(b107.resolve_left (fun z => by omega)).2, by omega⟩) | fail "none") _ _ _ hw (lv_sub hl [1, 2, 3, 4, 5, 6, 0, 7] rfl)
                  exact J84 ((((2147483647 : Int) - 0).toNat) + 1) 0 (by decide) (by decide) 0 (by decide) (by decide) (by omega) (by omega) (by omega) (by omega) (by exact mk) (by first | exact (cn_le (by omega)).symm | exact cn_to k1 (by omega) | fail "none") (by omega) _ _ _ hw (lv_sub hl [2, 3, 4, 5, 6, 7, 1, 0] rfl)
            exact J72 ((((2147483647 : Int) - x2).toNat) + 1) x2 lx2 ux2 ((-1)) (by decide) (by decide) x2 lx2 ux2 (by omega) (by omega) (by first | exact mk0 | exact mk | fail "none") (by first | exact BT2.start (by omega) (by omega) (by omega) | exact bt1.to (by omega) | fail "none") (by omega) _ _ _ hw (lv_sub hl [3, 5, 6, 2, 1, 0] rfl)
          · refine q_iconst hx hb dX10_busiest_42 ?_
            exact q_ret_i hx hb hr hlocks hK hAe hw ⟨by decide, by decide⟩ (Nat.le_of_ble_eq_true rfl) (Nat.le_of_ble_eq_true rfl) dX10_busiest_43 (by exact ⟨rfl, hs, hE, Or.inl ⟨by omega, by omega⟩⟩)