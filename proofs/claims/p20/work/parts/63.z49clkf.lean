/-! times of a row in order (where h.counts isn't laid) -/
theorem LL.mono {P : Int → Int → Prop} {tm ks : Int → Int} {n i j : Int} (h : LL P tm ks n) (i0 : 0 ≤ i) (ij : i ≤ j) (j1 : j < n) : tm i ≤ tm j := by
  by_cases q : i = j
  · rw [q]; exact Int.le_refl _
  · have z := h.2.2.1 i j i0 (by omega) j1
    unfold Lx at z
    omega
set_option maxHeartbeats 4000000 in
set_option maxRecDepth 100000 in
theorem c_X10_clashOf_o {Z : Zt} (zo : Zok Z) (l : Launch) (D : va_G) (cy : Cy) (L0 : List Nat) (f0 : Nat → va_E) (a0 : Nat) (x1 : Int) (lx1 : -2147483648 ≤ x1) (ux1 : x1 ≤ 2147483647) (x2 : Int) (lx2 : -2147483648 ≤ x2) (ux2 : x2 ≤ 2147483647) (x3 : Int) (lx3 : -2147483648 ≤ x3) (ux3 : x3 ≤ 2147483647) (ad : Nat → Nat) (hs : MS cy L0 f0 a0 ad) (nl : Int) (nm : Int) (enl : aI f0 (ad 13) 0 = nl) (enm : aI f0 (ad 13) 1 = nm) (z0 : 0 ≤ nl) (z1 : nl ≤ 36525) (z2 : 0 ≤ nm) (z3 : nm ≤ 36525) (upA : ∀ i j : Int, 0 ≤ i → i ≤ j → j < nl → aI f0 (ad 11) i ≤ aI f0 (ad 11) j) (upB : ∀ i j : Int, 0 ≤ i → i ≤ j → j < nm → aI f0 (ad 11) (36525 + i) ≤ aI f0 (ad 11) (36525 + j)) (tA : ∀ i : Int, 0 ≤ i → i < nl → 0 ≤ aI f0 (ad 11) i ∧ aI f0 (ad 11) i ≤ 52595999) (tB : ∀ i : Int, 0 ≤ i → i < nm → 0 ≤ aI f0 (ad 11) (36525 + i) ∧ aI f0 (ad 11) (36525 + i) ≤ 52595999) (la0 : 1 ≤ x1) (la1 : x1 ≤ 4320) (lb0 : 1 ≤ x2) (lb1 : x2 ≤ 4320) : Ci Z l yX10_clashOf (Cond.code yX10_clashOf cX10_clashOf 9 (some .int) :: TB) ({ frames := 0, cells := 0, slots := 0, locals := 0 } : Room) 0 0 D (tq cy) [.ref a0, .int (iI x1), .int (iI x2), .int (iI x3)] L0 f0 (fun (r : Int) (L1 : List Nat) (f1 : Nat → va_E) => L0 = L1 ∧ f0 = f1 ∧ (CA (HC (fun i : Int => aI f0 (ad 11) i) (fun j : Int => aI f0 (ad 11) (36525 + j)) nl nm x1 x2 x3) r)) := by
  refine Ci.enter (cc := cX10_clashOf) (n := 9) rfl (plainFor_of_name (by decide)) (Nat.le_of_ble_eq_true rfl) ?_
  intro p e s m below meth c ls A hx hb hr hts hown hlocks hnm hml hK hA hAe hw hZ hl
  have hown : s.vm.findClass RX10 = some m.cls := hown
  have hl : lv_has ls 9 [(0, .ref a0), (1, .int (iI x1)), (2, .int (iI x2)), (3, .int (iI x3))] := hl
  have hN : ZN s := (zo.2.2.2.2 _ _ _ hZ).2
  refine q_iconst hx hb dX10_clashOf_0 ?_
  refine lv_istore (lv' := [(4, .int (iI ((-1)))), (0, .ref a0), (1, .int (iI x1)), (2, .int (iI x2)), (3, .int (iI x3))]) hx hb dX10_clashOf_1 hl (by decide) rfl (fun ls hl => ?_)
  refine q_iconst hx hb dX10_clashOf_3 ?_
  refine lv_istore (lv' := [(5, .int (iI 0)), (4, .int (iI ((-1)))), (0, .ref a0), (1, .int (iI x1)), (2, .int (iI x2)), (3, .int (iI x3))]) hx hb dX10_clashOf_4 hl (by decide) rfl (fun ls hl => ?_)
  refine q_iconst hx hb dX10_clashOf_6 ?_
  refine lv_istore (lv' := [(6, .int (iI 0)), (5, .int (iI 0)), (4, .int (iI ((-1)))), (0, .ref a0), (1, .int (iI x1)), (2, .int (iI x2)), (3, .int (iI x3))]) hx hb dX10_clashOf_7 hl (by decide) rfl (fun ls hl => ?_)
  have J9 : ∀ (n9 : Nat) (y5_9 : Int) (ly5_9 : -2147483648 ≤ y5_9) (uy5_9 : y5_9 ≤ 2147483647) (y6_9 : Int) (ly6_9 : -2147483648 ≤ y6_9) (uy6_9 : y6_9 ≤ 2147483647) (i1 : 0 ≤ y6_9) (i2 : y6_9 ≤ nl) (n1 : 0 ≤ y5_9) (n2 : y5_9 ≤ nm) (nh : NH (fun i : Int => aI f0 (ad 11) i) (fun j : Int => aI f0 (ad 11) (36525 + j)) nm x2 x3 y6_9) (pj : PJ (fun i : Int => aI f0 (ad 11) i) (fun j : Int => aI f0 (ad 11) (36525 + j)) nl y5_9 y6_9) (hn9 : ((2147483647 : Int) - y6_9).toNat < n9) (H : Heap) (locs : List Loc) (ls : Array Slot) (hw : Wd D A s.heap L0 f0 H locs) (hl : lv_has ls 9 [(0, .ref a0), (1, .int (iI x1)), (2, .int (iI x2)), (3, .int (iI x3)), (4, .int (iI ((-1)))), (5, .int (iI y5_9)), (6, .int (iI y6_9))]), W p l e ({ frames := 0, cells := 0, slots := 0, locals := 0 } : Room) s m ([.ref a0, .int (iI x1), .int (iI x2), .int (iI x3)] : List Value).toArray below meth c H locs (0) (0) (MQ below (Qi D (tq cy) L0 f0 s.heap.size (fun (r : Int) (L1 : List Nat) (f1 : Nat → va_E) => L0 = L1 ∧ f0 = f1 ∧ (CA (HC (fun i : Int => aI f0 (ad 11) i) (fun j : Int => aI f0 (ad 11) (36525 + j)) nl nm x1 x2 x3) r))) ([.ref a0, .int (iI x1), .int (iI x2), .int (iI x3)] : List Value).toArray s 0 0 A) (F0 m 9 ls []) := by
    intro n9
    induction n9 with
    | zero => intro y5_9 ly5_9 uy5_9 y6_9 ly6_9 uy6_9 i1 i2 n1 n2 nh pj hn9; exact absurd hn9 (Nat.not_lt_zero _)
    | succ n9 ih9 =>
      intro y5_9 ly5_9 uy5_9 y6_9 ly6_9 uy6_9 i1 i2 n1 n2 nh pj hn9 H locs ls hw hl
      refine lv_iload hx hb dX10_clashOf_9 (lv_at hl 6 rfl) ?_
      refine lv_aload_n hx hb dX10_clashOf_11 rfl (lv_at hl 0 rfl) ?_
      refine q_getr (ci := 8) (C := RX10) (T := TX10) (N := 26) hx hb hts (fun w h => List.mem_cons_of_mem _ (mfX100 w h)) hown hK hw hs.1 hs.2.1 rfl 13 (by decide) (hts _ (List.mem_cons_of_mem _ (mr3 _ (List.mem_of_getElem? (i := 21) rfl)))) (fun _ h => h) rfl (hs.2.2.1 13 rfl).1 dX10_clashOf_12 ?_
      refine q_iconst hx hb dX10_clashOf_15 ?_
      refine q_iald hx hb hK hw (hs.2.2.1 13 rfl).2.1 1 (hs.2.2.1 13 rfl).2.2 rfl ⟨by decide, by decide⟩ (by omega) (by show _ < ((2 : Nat) : Int); omega) dX10_clashOf_16 (fun x_1 lx_1 ux_1 ex_1 => ?_)
      have J107 : ∀ (z4_107 : Int) (lz4_107 : -2147483648 ≤ z4_107) (uz4_107 : z4_107 ≤ 2147483647) (be : BEx (fun i : Int => aI f0 (ad 11) i) (fun j : Int => aI f0 (ad 11) (36525 + j)) nl nm x2 x3 z4_107) (H : Heap) (locs : List Loc) (ls : Array Slot) (hw : Wd D A s.heap L0 f0 H locs) (hl : lv_has ls 9 [(0, .ref a0), (1, .int (iI x1)), (3, .int (iI x3)), (4, .int (iI z4_107))]), W p l e ({ frames := 0, cells := 0, slots := 0, locals := 0 } : Room) s m ([.ref a0, .int (iI x1), .int (iI x2), .int (iI x3)] : List Value).toArray below meth c H locs (0) (0) (MQ below (Qi D (tq cy) L0 f0 s.heap.size (fun (r : Int) (L1 : List Nat) (f1 : Nat → va_E) => L0 = L1 ∧ f0 = f1 ∧ (CA (HC (fun i : Int => aI f0 (ad 11) i) (fun j : Int => aI f0 (ad 11) (36525 + j)) nl nm x1 x2 x3) r))) ([.ref a0, .int (iI x1), .int (iI x2), .int (iI x3)] : List Value).toArray s 0 0 A) (F0 m 107 ls []) := by
        intro z4_107 lz4_107 uz4_107 be H locs ls hw hl
        refine q_iconst hx hb dX10_clashOf_107 ?_
        refine lv_istore (lv' := [(6, .int (iI 0)), (0, .ref a0), (1, .int (iI x1)), (3, .int (iI x3)), (4, .int (iI z4_107))]) hx hb dX10_clashOf_108 hl (by decide) rfl (fun ls hl => ?_)
        refine q_iconst hx hb dX10_clashOf_110 ?_
        refine lv_istore (lv' := [(7, .int (iI 0)), (6, .int (iI 0)), (0, .ref a0), (1, .int (iI x1)), (3, .int (iI x3)), (4, .int (iI z4_107))]) hx hb dX10_clashOf_111 hl (by decide) rfl (fun ls hl => ?_)
        have J113 : ∀ (n113 : Nat) (y6_113 : Int) (ly6_113 : -2147483648 ≤ y6_113) (uy6_113 : y6_113 ≤ 2147483647) (y7_113 : Int) (ly7_113 : -2147483648 ≤ y7_113) (uy7_113 : y7_113 ≤ 2147483647) (i1 : 0 ≤ y7_113) (i2 : y7_113 ≤ nm) (n1 : 0 ≤ y6_113) (n2 : y6_113 ≤ nl) (nk : NH (fun j : Int => aI f0 (ad 11) (36525 + j)) (fun i : Int => aI f0 (ad 11) i) nl x1 x3 y7_113) (pj3 : PJ (fun j : Int => aI f0 (ad 11) (36525 + j)) (fun i : Int => aI f0 (ad 11) i) nm y6_113 y7_113) (hn113 : ((2147483647 : Int) - y7_113).toNat < n113) (H : Heap) (locs : List Loc) (ls : Array Slot) (hw : Wd D A s.heap L0 f0 H locs) (hl : lv_has ls 9 [(0, .ref a0), (1, .int (iI x1)), (3, .int (iI x3)), (4, .int (iI z4_107)), (6, .int (iI y6_113)), (7, .int (iI y7_113))]), W p l e ({ frames := 0, cells := 0, slots := 0, locals := 0 } : Room) s m ([.ref a0, .int (iI x1), .int (iI x2), .int (iI x3)] : List Value).toArray below meth c H locs (0) (0) (MQ below (Qi D (tq cy) L0 f0 s.heap.size (fun (r : Int) (L1 : List Nat) (f1 : Nat → va_E) => L0 = L1 ∧ f0 = f1 ∧ (CA (HC (fun i : Int => aI f0 (ad 11) i) (fun j : Int => aI f0 (ad 11) (36525 + j)) nl nm x1 x2 x3) r))) ([.ref a0, .int (iI x1), .int (iI x2), .int (iI x3)] : List Value).toArray s 0 0 A) (F0 m 113 ls []) := by
          intro n113
          induction n113 with
          | zero => intro y6_113 ly6_113 uy6_113 y7_113 ly7_113 uy7_113 i1 i2 n1 n2 nk pj3 hn113; exact absurd hn113 (Nat.not_lt_zero _)
          | succ n113 ih113 =>
            intro y6_113 ly6_113 uy6_113 y7_113 ly7_113 uy7_113 i1 i2 n1 n2 nk pj3 hn113 H locs ls hw hl
            refine lv_iload hx hb dX10_clashOf_113 (lv_at hl 5 rfl) ?_
            refine lv_aload_n hx hb dX10_clashOf_115 rfl (lv_at hl 0 rfl) ?_
            refine q_getr (ci := 8) (C := RX10) (T := TX10) (N := 26) hx hb hts (fun w h => List.mem_cons_of_mem _ (mfX100 w h)) hown hK hw hs.1 hs.2.1 rfl 13 (by decide) (hts _ (List.mem_cons_of_mem _ (mr3 _ (List.mem_of_getElem? (i := 21) rfl)))) (fun _ h => h) rfl (hs.2.2.1 13 rfl).1 dX10_clashOf_116 ?_
            refine q_iconst hx hb dX10_clashOf_119 ?_
            refine q_iald hx hb hK hw (hs.2.2.1 13 rfl).2.1 1 (hs.2.2.1 13 rfl).2.2 rfl ⟨by decide, by decide⟩ (by omega) (by show _ < ((2 : Nat) : Int); omega) dX10_clashOf_120 (fun x_2 lx_2 ux_2 ex_2 => ?_)
            refine q_icmp_ge (tgt := 216) hx hb dX10_clashOf_121 (by decide) ⟨ly7_113, uy7_113⟩ ⟨lx_2, ux_2⟩ (fun c121 => ?_) (fun c121 => ?_)
            · refine lv_iload hx hb dX10_clashOf_216 (lv_at hl 3 rfl) ?_
              exact q_ret_i hx hb hr hlocks hK hAe hw ⟨lz4_107, uz4_107⟩ (Nat.le_of_ble_eq_true rfl) (Nat.le_of_ble_eq_true rfl) dX10_clashOf_218 ⟨rfl, rfl, by first | exact hc_best be nk (fun a a0 a1 => upB _ a (by omega) a0 a1) (Or.inl (by omega)) | exact hc_best be nk (fun a a0 a1 => upB _ a (by omega) a0 a1) (Or.inr ⟨by omega, by show _ ≤ aI f0 (ad 11) (36525 + y7_113); omega⟩) | fail "none"⟩
            · refine lv_aload_n hx hb dX10_clashOf_124 rfl (lv_at hl 0 rfl) ?_
              refine q_getr (ci := 8) (C := RX10) (T := TX10) (N := 26) hx hb hts (fun w h => List.mem_cons_of_mem _ (mfX100 w h)) hown hK hw hs.1 hs.2.1 rfl 11 (by decide) (hts _ (List.mem_cons_of_mem _ (mr3 _ (List.mem_of_getElem? (i := 19) rfl)))) (fun _ h => h) rfl (hs.2.2.1 11 rfl).1 dX10_clashOf_125 ?_
              refine q_ldc (n := 36525) hx hb hown (hts _ (List.mem_cons_of_mem _ (mr3 _ (List.mem_of_getElem? (i := 9) rfl)))) rfl dX10_clashOf_128 ?_
              refine lv_iload hx hb dX10_clashOf_130 (lv_at hl 5 rfl) ?_
              first | refine q_iadd hx hb dX10_clashOf_132 ⟨by omega, by omega⟩ (fun x_3 lx_3 ux_3 ex_3 => ?_) | refine q_iaddw hx hb dX10_clashOf_132 (fun x_3 lx_3 ux_3 ex_3 => ?_)
              refine q_iald hx hb hK hw (hs.2.2.1 11 rfl).2.1 1 (hs.2.2.1 11 rfl).2.2 rfl ⟨lx_3, ux_3⟩ (by omega) (by show _ < ((73050 : Nat) : Int); omega) dX10_clashOf_133 (fun x_4 lx_4 ux_4 ex_4 => ?_)
              have g133 : x_4 = aI f0 (ad 11) (36525 + (y7_113)) := ex_4.trans (aI_cg (by omega))
              have t133 := tB (y7_113) (by omega) (by omega)
              refine lv_istore (lv' := [(8, .int (iI x_4)), (0, .ref a0), (1, .int (iI x1)), (3, .int (iI x3)), (4, .int (iI z4_107)), (6, .int (iI y6_113)), (7, .int (iI y7_113))]) hx hb dX10_clashOf_134 hl (by decide) rfl (fun ls hl => ?_)
              refine lv_iload hx hb dX10_clashOf_136 (lv_at hl 4 rfl) ?_
              refine q_if_lt (tgt := 151) hx hb dX10_clashOf_138 (by decide) ⟨lz4_107, uz4_107⟩ (fun c138 => ?_) (fun c138 => ?_)
              · have J151 : ∀ (n151 : Nat) (y6_151 : Int) (ly6_151 : -2147483648 ≤ y6_151) (uy6_151 : y6_151 ≤ 2147483647) (n1 : 0 ≤ y6_151) (n2 : y6_151 ≤ nl) (pj4 : PJ (fun j : Int => aI f0 (ad 11) (36525 + j)) (fun i : Int => aI f0 (ad 11) i) nm y6_151 y7_113) (hn151 : ((2147483647 : Int) - y6_151).toNat < n151) (H : Heap) (locs : List Loc) (ls : Array Slot) (hw : Wd D A s.heap L0 f0 H locs) (hl : lv_has ls 9 [(0, .ref a0), (1, .int (iI x1)), (3, .int (iI x3)), (4, .int (iI z4_107)), (6, .int (iI y6_151)), (7, .int (iI y7_113)), (8, .int (iI x_4))]), W p l e ({ frames := 0, cells := 0, slots := 0, locals := 0 } : Room) s m ([.ref a0, .int (iI x1), .int (iI x2), .int (iI x3)] : List Value).toArray below meth c H locs (0) (0) (MQ below (Qi D (tq cy) L0 f0 s.heap.size (fun (r : Int) (L1 : List Nat) (f1 : Nat → va_E) => L0 = L1 ∧ f0 = f1 ∧ (CA (HC (fun i : Int => aI f0 (ad 11) i) (fun j : Int => aI f0 (ad 11) (36525 + j)) nl nm x1 x2 x3) r))) ([.ref a0, .int (iI x1), .int (iI x2), .int (iI x3)] : List Value).toArray s 0 0 A) (F0 m 151 ls []) := by
                  intro n151
                  induction n151 with
                  | zero => intro y6_151 ly6_151 uy6_151 n1 n2 pj4 hn151; exact absurd hn151 (Nat.not_lt_zero _)
                  | succ n151 ih151 =>
                    intro y6_151 ly6_151 uy6_151 n1 n2 pj4 hn151 H locs ls hw hl
                    refine lv_iload hx hb dX10_clashOf_151 (lv_at hl 4 rfl) ?_
                    refine lv_aload_n hx hb dX10_clashOf_153 rfl (lv_at hl 0 rfl) ?_
                    refine q_getr (ci := 8) (C := RX10) (T := TX10) (N := 26) hx hb hts (fun w h => List.mem_cons_of_mem _ (mfX100 w h)) hown hK hw hs.1 hs.2.1 rfl 13 (by decide) (hts _ (List.mem_cons_of_mem _ (mr3 _ (List.mem_of_getElem? (i := 21) rfl)))) (fun _ h => h) rfl (hs.2.2.1 13 rfl).1 dX10_clashOf_154 ?_
                    refine q_iconst hx hb dX10_clashOf_157 ?_
                    refine q_iald hx hb hK hw (hs.2.2.1 13 rfl).2.1 1 (hs.2.2.1 13 rfl).2.2 rfl ⟨by decide, by decide⟩ (by omega) (by show _ < ((2 : Nat) : Int); omega) dX10_clashOf_158 (fun x_5 lx_5 ux_5 ex_5 => ?_)
                    have J180 : ∀ (n1 : 0 ≤ y6_151) (n2 : y6_151 ≤ nl) (pj5 : PJ (fun j : Int => aI f0 (ad 11) (36525 + j)) (fun i : Int => aI f0 (ad 11) i) nm y6_151 y7_113) (pk2 : PK (fun j : Int => aI f0 (ad 11) (36525 + j)) (fun i : Int => aI f0 (ad 11) i) nl y6_151 y7_113) (H : Heap) (locs : List Loc) (ls : Array Slot) (hw : Wd D A s.heap L0 f0 H locs) (hl : lv_has ls 9 [(0, .ref a0), (1, .int (iI x1)), (3, .int (iI x3)), (4, .int (iI z4_107)), (6, .int (iI y6_151)), (7, .int (iI y7_113)), (8, .int (iI x_4))]), W p l e ({ frames := 0, cells := 0, slots := 0, locals := 0 } : Room) s m ([.ref a0, .int (iI x1), .int (iI x2), .int (iI x3)] : List Value).toArray below meth c H locs (0) (0) (MQ below (Qi D (tq cy) L0 f0 s.heap.size (fun (r : Int) (L1 : List Nat) (f1 : Nat → va_E) => L0 = L1 ∧ f0 = f1 ∧ (CA (HC (fun i : Int => aI f0 (ad 11) i) (fun j : Int => aI f0 (ad 11) (36525 + j)) nl nm x1 x2 x3) r))) ([.ref a0, .int (iI x1), .int (iI x2), .int (iI x3)] : List Value).toArray s 0 0 A) (F0 m 180 ls []) := by
                      intro n1 n2 pj5 pk2 H locs ls hw hl
                      refine lv_iload hx hb dX10_clashOf_180 (lv_at hl 6 rfl) ?_
                      refine lv_iload_n hx hb dX10_clashOf_182 rfl (lv_at hl 2 rfl) ?_
                      have J210 : ∀ (n1 : 0 ≤ y6_151) (n2 : y6_151 ≤ nl) (ht2 : ¬ HT (fun j : Int => aI f0 (ad 11) (36525 + j)) (fun i : Int => aI f0 (ad 11) i) nl x1 x3 y7_113) (H : Heap) (locs : List Loc) (ls : Array Slot) (hw : Wd D A s.heap L0 f0 H locs) (hl : lv_has ls 9 [(0, .ref a0), (1, .int (iI x1)), (3, .int (iI x3)), (4, .int (iI z4_107)), (6, .int (iI y6_151)), (7, .int (iI y7_113))]), W p l e ({ frames := 0, cells := 0, slots := 0, locals := 0 } : Room) s m ([.ref a0, .int (iI x1), .int (iI x2), .int (iI x3)] : List Value).toArray below meth c H locs (0) (0) (MQ below (Qi D (tq cy) L0 f0 s.heap.size (fun (r : Int) (L1 : List Nat) (f1 : Nat → va_E) => L0 = L1 ∧ f0 = f1 ∧ (CA (HC (fun i : Int => aI f0 (ad 11) i) (fun j : Int => aI f0 (ad 11) (36525 + j)) nl nm x1 x2 x3) r))) ([.ref a0, .int (iI x1), .int (iI x2), .int (iI x3)] : List Value).toArray s 0 0 A) (F0 m 210 ls []) := by
                        intro n1 n2 ht2 H locs ls hw hl
                        obtain ⟨x_6, lx_6, ux_6, hx_6, ex_6⟩ := q_inc y7_113 (1)
                        try (replace ex_6 : x_6 = y7_113 + (1) := by omega)
                        refine lv_iinc (v := iI x_6) (lv' := [(7, .int (iI x_6)), (0, .ref a0), (1, .int (iI x1)), (3, .int (iI x3)), (4, .int (iI z4_107)), (6, .int (iI y6_151))]) hx hb dX10_clashOf_210 hl (k := 5) rfl hx_6 (by decide) rfl (fun ls hl => ?_)
                        refine lv_goto (tgt := 113) hx hb dX10_clashOf_213 (by decide) ?_
                        exact ih113 y6_151 ly6_151 uy6_151 x_6 lx_6 ux_6 (by omega) (by omega) (by omega) (by omega) (by first | exact NH.start (by omega) | exact nk.step ht2 (by omega) | fail "none") (by first | exact PJ.start (by omega) | exact pj5.to (by omega) | fail "none") (by omega) _ _ _ hw (lv_sub hl [1, 2, 3, 4, 5, 0] rfl)
                      refine q_icmp_lt (tgt := 210) hx hb dX10_clashOf_183 (by decide) ⟨lx_4, ux_4⟩ ⟨lx3, ux3⟩ (fun c183 => ?_) (fun c183 => ?_)
                      · exact J210 (by omega) (by omega) (by first | exact ht_lt g133.symm (by omega) | exact ht_0 pk2 (by omega) | exact ht_no pk2 (fun l l0 l1 => upA l _ l0 l1 (by omega)) g133.symm g199.symm (by omega) | fail "none") _ _ _ hw (lv_sub hl [0, 1, 2, 3, 4, 5] rfl)
                      · refine lv_iload hx hb dX10_clashOf_186 (lv_at hl 4 rfl) ?_
                        refine q_if_le (tgt := 210) hx hb dX10_clashOf_188 (by decide) ⟨ly6_151, uy6_151⟩ (fun c188 => ?_) (fun c188 => ?_)
                        · exact J210 (by omega) (by omega) (by first | exact ht_lt g133.symm (by omega) | exact ht_0 pk2 (by omega) | exact ht_no pk2 (fun l l0 l1 => upA l _ l0 l1 (by omega)) g133.symm g199.symm (by omega) | fail "none") _ _ _ hw (lv_sub hl [0, 1, 2, 3, 4, 5] rfl)
                        · refine lv_aload_n hx hb dX10_clashOf_191 rfl (lv_at hl 0 rfl) ?_
                          refine q_getr (ci := 8) (C := RX10) (T := TX10) (N := 26) hx hb hts (fun w h => List.mem_cons_of_mem _ (mfX100 w h)) hown hK hw hs.1 hs.2.1 rfl 11 (by decide) (hts _ (List.mem_cons_of_mem _ (mr3 _ (List.mem_of_getElem? (i := 19) rfl)))) (fun _ h => h) rfl (hs.2.2.1 11 rfl).1 dX10_clashOf_192 ?_
                          refine lv_iload hx hb dX10_clashOf_195 (lv_at hl 4 rfl) ?_
                          refine q_iconst hx hb dX10_clashOf_197 ?_
                          first | refine q_isub hx hb dX10_clashOf_198 ⟨by omega, by omega⟩ (fun x_7 lx_7 ux_7 ex_7 => ?_) | refine q_isubw hx hb dX10_clashOf_198 (fun x_7 lx_7 ux_7 ex_7 => ?_)
                          refine q_iald hx hb hK hw (hs.2.2.1 11 rfl).2.1 1 (hs.2.2.1 11 rfl).2.2 rfl ⟨lx_7, ux_7⟩ (by omega) (by show _ < ((73050 : Nat) : Int); omega) dX10_clashOf_199 (fun x_8 lx_8 ux_8 ex_8 => ?_)
                          have g199 : x_8 = aI f0 (ad 11) (y6_151 - 1) := ex_8.trans (aI_cg (by omega))
                          have t199 := tA (y6_151 - 1) (by omega) (by omega)
                          refine lv_iload_n hx hb dX10_clashOf_200 rfl (lv_at hl 1 rfl) ?_
                          first | refine q_iadd hx hb dX10_clashOf_201 ⟨by omega, by omega⟩ (fun x_9 lx_9 ux_9 ex_9 => ?_) | refine q_iaddw hx hb dX10_clashOf_201 (fun x_9 lx_9 ux_9 ex_9 => ?_)
                          refine lv_iload hx hb dX10_clashOf_202 (lv_at hl 6 rfl) ?_
                          refine q_icmp_le (tgt := 210) hx hb dX10_clashOf_204 (by decide) ⟨lx_9, ux_9⟩ ⟨lx_4, ux_4⟩ (fun c204 => ?_) (fun c204 => ?_)
                          · exact J210 (by omega) (by omega) (by first | exact ht_lt g133.symm (by omega) | exact ht_0 pk2 (by omega) | exact ht_no pk2 (fun l l0 l1 => upA l _ l0 l1 (by omega)) g133.symm g199.symm (by omega) | fail "none") _ _ _ hw (lv_sub hl [0, 1, 2, 3, 4, 5] rfl)
                          · refine lv_iload hx hb dX10_clashOf_207 (lv_at hl 6 rfl) ?_
                            exact q_ret_i hx hb hr hlocks hK hAe hw ⟨lx_4, ux_4⟩ (Nat.le_of_ble_eq_true rfl) (Nat.le_of_ble_eq_true rfl) dX10_clashOf_209 ⟨rfl, rfl, by exact hc_hit be nk (by omega) (by omega) (ht_yes pj5 (by omega) (by omega) (by omega) g133.symm g199.symm (by omega) (by omega)) (fun a a0 a1 => upB _ a (by omega) a0 a1) g133.symm (by omega) (by omega)⟩
                    refine q_icmp_ge (tgt := 180) hx hb dX10_clashOf_159 (by decide) ⟨ly6_151, uy6_151⟩ ⟨lx_5, ux_5⟩ (fun c159 => ?_) (fun c159 => ?_)
                    · exact J180 (by omega) (by omega) (by exact pj4) (by first | exact PK.none (by omega) | exact PK.some (fun a a0 a1 => upA _ a (by omega) a0 a1) g133.symm g168.symm (by omega) | fail "none") _ _ _ hw (lv_sub hl [0, 1, 2, 3, 4, 5, 6] rfl)
                    · refine lv_aload_n hx hb dX10_clashOf_162 rfl (lv_at hl 0 rfl) ?_
                      refine q_getr (ci := 8) (C := RX10) (T := TX10) (N := 26) hx hb hts (fun w h => List.mem_cons_of_mem _ (mfX100 w h)) hown hK hw hs.1 hs.2.1 rfl 11 (by decide) (hts _ (List.mem_cons_of_mem _ (mr3 _ (List.mem_of_getElem? (i := 19) rfl)))) (fun _ h => h) rfl (hs.2.2.1 11 rfl).1 dX10_clashOf_163 ?_
                      refine lv_iload hx hb dX10_clashOf_166 (lv_at hl 4 rfl) ?_
                      refine q_iald hx hb hK hw (hs.2.2.1 11 rfl).2.1 1 (hs.2.2.1 11 rfl).2.2 rfl ⟨ly6_151, uy6_151⟩ (by omega) (by show _ < ((73050 : Nat) : Int); omega) dX10_clashOf_168 (fun x_10 lx_10 ux_10 ex_10 => ?_)
                      have g168 : x_10 = aI f0 (ad 11) (y6_151) := ex_10.trans (aI_cg (by omega))
                      have t168 := tA (y6_151) (by omega) (by omega)
                      refine lv_iload hx hb dX10_clashOf_169 (lv_at hl 6 rfl) ?_
                      refine q_icmp_gt (tgt := 180) hx hb dX10_clashOf_171 (by decide) ⟨lx_10, ux_10⟩ ⟨lx_4, ux_4⟩ (fun c171 => ?_) (fun c171 => ?_)
                      · exact J180 (by omega) (by omega) (by exact pj4) (by first | exact PK.none (by omega) | exact PK.some (fun a a0 a1 => upA _ a (by omega) a0 a1) g133.symm g168.symm (by omega) | fail "none") _ _ _ hw (lv_sub hl [0, 1, 2, 3, 4, 5, 6] rfl)
                      · obtain ⟨x_11, lx_11, ux_11, hx_11, ex_11⟩ := q_inc y6_151 (1)
                        try (replace ex_11 : x_11 = y6_151 + (1) := by omega)
                        refine lv_iinc (v := iI x_11) (lv' := [(6, .int (iI x_11)), (0, .ref a0), (1, .int (iI x1)), (3, .int (iI x3)), (4, .int (iI z4_107)), (7, .int (iI y7_113)), (8, .int (iI x_4))]) hx hb dX10_clashOf_174 hl (k := 4) rfl hx_11 (by decide) rfl (fun ls hl => ?_)
                        refine lv_goto (tgt := 151) hx hb dX10_clashOf_177 (by decide) ?_
                        exact ih151 x_11 lx_11 ux_11 (by omega) (by omega) (by first | exact pj3 | exact pj4.step (fun a a0 a1 => upB _ a (by omega) a0 a1) g133.symm g168.symm (by omega) (by omega) | fail "none") (by omega) _ _ _ hw (lv_sub hl [1, 2, 3, 4, 0, 5, 6] rfl)
                exact J151 ((((2147483647 : Int) - y6_113).toNat) + 1) y6_113 ly6_113 uy6_113 (by omega) (by omega) (by first | exact pj3 | exact pj4.step (fun a a0 a1 => upB _ a (by omega) a0 a1) g133.symm g168.symm (by omega) (by omega) | fail "none") (by omega) _ _ _ hw (lv_sub hl [1, 2, 3, 4, 5, 6, 0] rfl)
              · refine lv_iload hx hb dX10_clashOf_141 (lv_at hl 0 rfl) ?_
                refine lv_iload hx hb dX10_clashOf_143 (lv_at hl 4 rfl) ?_
                refine q_icmp_lt (tgt := 151) hx hb dX10_clashOf_145 (by decide) ⟨lx_4, ux_4⟩ ⟨lz4_107, uz4_107⟩ (fun c145 => ?_) (fun c145 => ?_)
                · have J151 : ∀ (n151 : Nat) (y6_151 : Int) (ly6_151 : -2147483648 ≤ y6_151) (uy6_151 : y6_151 ≤ 2147483647) (n1 : 0 ≤ y6_151) (n2 : y6_151 ≤ nl) (pj4 : PJ (fun j : Int => aI f0 (ad 11) (36525 + j)) (fun i : Int => aI f0 (ad 11) i) nm y6_151 y7_113) (hn151 : ((2147483647 : Int) - y6_151).toNat < n151) (H : Heap) (locs : List Loc) (ls : Array Slot) (hw : Wd D A s.heap L0 f0 H locs) (hl : lv_has ls 9 [(0, .ref a0), (1, .int (iI x1)), (3, .int (iI x3)), (4, .int (iI z4_107)), (6, .int (iI y6_151)), (7, .int (iI y7_113)), (8, .int (iI x_4))]), W p l e ({ frames := 0, cells := 0, slots := 0, locals := 0 } : Room) s m ([.ref a0, .int (iI x1), .int (iI x2), .int (iI x3)] : List Value).toArray below meth c H locs (0) (0) (MQ below (Qi D (tq cy) L0 f0 s.heap.size (fun (r : Int) (L1 : List Nat) (f1 : Nat → va_E) => L0 = L1 ∧ f0 = f1 ∧ (CA (HC (fun i : Int => aI f0 (ad 11) i) (fun j : Int => aI f0 (ad 11) (36525 + j)) nl nm x1 x2 x3) r))) ([.ref a0, .int (iI x1), .int (iI x2), .int (iI x3)] : List Value).toArray s 0 0 A) (F0 m 151 ls []) := by
                    intro n151
                    induction n151 with
                    | zero => intro y6_151 ly6_151 uy6_151 n1 n2 pj4 hn151; exact absurd hn151 (Nat.not_lt_zero _)
                    | succ n151 ih151 =>
                      intro y6_151 ly6_151 uy6_151 n1 n2 pj4 hn151 H locs ls hw hl
                      refine lv_iload hx hb dX10_clashOf_151 (lv_at hl 4 rfl) ?_
                      refine lv_aload_n hx hb dX10_clashOf_153 rfl (lv_at hl 0 rfl) ?_
                      refine q_getr (ci := 8) (C := RX10) (T := TX10) (N := 26) hx hb hts (fun w h => List.mem_cons_of_mem _ (mfX100 w h)) hown hK hw hs.1 hs.2.1 rfl 13 (by decide) (hts _ (List.mem_cons_of_mem _ (mr3 _ (List.mem_of_getElem? (i := 21) rfl)))) (fun _ h => h) rfl (hs.2.2.1 13 rfl).1 dX10_clashOf_154 ?_
                      refine q_iconst hx hb dX10_clashOf_157 ?_
                      refine q_iald hx hb hK hw (hs.2.2.1 13 rfl).2.1 1 (hs.2.2.1 13 rfl).2.2 rfl ⟨by decide, by decide⟩ (by omega) (by show _ < ((2 : Nat) : Int); omega) dX10_clashOf_158 (fun x_12 lx_12 ux_12 ex_12 => ?_)
                      have J180 : ∀ (n1 : 0 ≤ y6_151) (n2 : y6_151 ≤ nl) (pj5 : PJ (fun j : Int => aI f0 (ad 11) (36525 + j)) (fun i : Int => aI f0 (ad 11) i) nm y6_151 y7_113) (pk2 : PK (fun j : Int => aI f0 (ad 11) (36525 + j)) (fun i : Int => aI f0 (ad 11) i) nl y6_151 y7_113) (H : Heap) (locs : List Loc) (ls : Array Slot) (hw : Wd D A s.heap L0 f0 H locs) (hl : lv_has ls 9 [(0, .ref a0), (1, .int (iI x1)), (3, .int (iI x3)), (4, .int (iI z4_107)), (6, .int (iI y6_151)), (7, .int (iI y7_113)), (8, .int (iI x_4))]), W p l e ({ frames := 0, cells := 0, slots := 0, locals := 0 } : Room) s m ([.ref a0, .int (iI x1), .int (iI x2), .int (iI x3)] : List Value).toArray below meth c H locs (0) (0) (MQ below (Qi D (tq cy) L0 f0 s.heap.size (fun (r : Int) (L1 : List Nat) (f1 : Nat → va_E) => L0 = L1 ∧ f0 = f1 ∧ (CA (HC (fun i : Int => aI f0 (ad 11) i) (fun j : Int => aI f0 (ad 11) (36525 + j)) nl nm x1 x2 x3) r))) ([.ref a0, .int (iI x1), .int (iI x2), .int (iI x3)] : List Value).toArray s 0 0 A) (F0 m 180 ls []) := by
                        intro n1 n2 pj5 pk2 H locs ls hw hl
                        refine lv_iload hx hb dX10_clashOf_180 (lv_at hl 6 rfl) ?_
                        refine lv_iload_n hx hb dX10_clashOf_182 rfl (lv_at hl 2 rfl) ?_
                        have J210 : ∀ (n1 : 0 ≤ y6_151) (n2 : y6_151 ≤ nl) (ht2 : ¬ HT (fun j : Int => aI f0 (ad 11) (36525 + j)) (fun i : Int => aI f0 (ad 11) i) nl x1 x3 y7_113) (H : Heap) (locs : List Loc) (ls : Array Slot) (hw : Wd D A s.heap L0 f0 H locs) (hl : lv_has ls 9 [(0, .ref a0), (1, .int (iI x1)), (3, .int (iI x3)), (4, .int (iI z4_107)), (6, .int (iI y6_151)), (7, .int (iI y7_113))]), W p l e ({ frames := 0, cells := 0, slots := 0, locals := 0 } : Room) s m ([.ref a0, .int (iI x1), .int (iI x2), .int (iI x3)] : List Value).toArray below meth c H locs (0) (0) (MQ below (Qi D (tq cy) L0 f0 s.heap.size (fun (r : Int) (L1 : List Nat) (f1 : Nat → va_E) => L0 = L1 ∧ f0 = f1 ∧ (CA (HC (fun i : Int => aI f0 (ad 11) i) (fun j : Int => aI f0 (ad 11) (36525 + j)) nl nm x1 x2 x3) r))) ([.ref a0, .int (iI x1), .int (iI x2), .int (iI x3)] : List Value).toArray s 0 0 A) (F0 m 210 ls []) := by
                          intro n1 n2 ht2 H locs ls hw hl
                          obtain ⟨x_13, lx_13, ux_13, hx_13, ex_13⟩ := q_inc y7_113 (1)
                          try (replace ex_13 : x_13 = y7_113 + (1) := by omega)
                          refine lv_iinc (v := iI x_13) (lv' := [(7, .int (iI x_13)), (0, .ref a0), (1, .int (iI x1)), (3, .int (iI x3)), (4, .int (iI z4_107)), (6, .int (iI y6_151))]) hx hb dX10_clashOf_210 hl (k := 5) rfl hx_13 (by decide) rfl (fun ls hl => ?_)
                          refine lv_goto (tgt := 113) hx hb dX10_clashOf_213 (by decide) ?_
                          exact ih113 y6_151 ly6_151 uy6_151 x_13 lx_13 ux_13 (by omega) (by omega) (by omega) (by omega) (by first | exact NH.start (by omega) | exact nk.step ht2 (by omega) | fail "none") (by first | exact PJ.start (by omega) | exact pj5.to (by omega) | fail "none") (by omega) _ _ _ hw (lv_sub hl [1, 2, 3, 4, 5, 0] rfl)
                        refine q_icmp_lt (tgt := 210) hx hb dX10_clashOf_183 (by decide) ⟨lx_4, ux_4⟩ ⟨lx3, ux3⟩ (fun c183 => ?_) (fun c183 => ?_)
                        · exact J210 (by omega) (by omega) (by first | exact ht_lt g133.symm (by omega) | exact ht_0 pk2 (by omega) | exact ht_no pk2 (fun l l0 l1 => upA l _ l0 l1 (by omega)) g133.symm g199.symm (by omega) | fail "none") _ _ _ hw (lv_sub hl [0, 1, 2, 3, 4, 5] rfl)
                        · refine lv_iload hx hb dX10_clashOf_186 (lv_at hl 4 rfl) ?_
                          refine q_if_le (tgt := 210) hx hb dX10_clashOf_188 (by decide) ⟨ly6_151, uy6_151⟩ (fun c188 => ?_) (fun c188 => ?_)
                          · exact J210 (by omega) (by omega) (by first | exact ht_lt g133.symm (by omega) | exact ht_0 pk2 (by omega) | exact ht_no pk2 (fun l l0 l1 => upA l _ l0 l1 (by omega)) g133.symm g199.symm (by omega) | fail "none") _ _ _ hw (lv_sub hl [0, 1, 2, 3, 4, 5] rfl)
                          · refine lv_aload_n hx hb dX10_clashOf_191 rfl (lv_at hl 0 rfl) ?_
                            refine q_getr (ci := 8) (C := RX10) (T := TX10) (N := 26) hx hb hts (fun w h => List.mem_cons_of_mem _ (mfX100 w h)) hown hK hw hs.1 hs.2.1 rfl 11 (by decide) (hts _ (List.mem_cons_of_mem _ (mr3 _ (List.mem_of_getElem? (i := 19) rfl)))) (fun _ h => h) rfl (hs.2.2.1 11 rfl).1 dX10_clashOf_192 ?_
                            refine lv_iload hx hb dX10_clashOf_195 (lv_at hl 4 rfl) ?_
                            refine q_iconst hx hb dX10_clashOf_197 ?_
                            first | refine q_isub hx hb dX10_clashOf_198 ⟨by omega, by omega⟩ (fun x_14 lx_14 ux_14 ex_14 => ?_) | refine q_isubw hx hb dX10_clashOf_198 (fun x_14 lx_14 ux_14 ex_14 => ?_)
                            refine q_iald hx hb hK hw (hs.2.2.1 11 rfl).2.1 1 (hs.2.2.1 11 rfl).2.2 rfl ⟨lx_14, ux_14⟩ (by omega) (by show _ < ((73050 : Nat) : Int); omega) dX10_clashOf_199 (fun x_15 lx_15 ux_15 ex_15 => ?_)
                            have g199 : x_15 = aI f0 (ad 11) (y6_151 - 1) := ex_15.trans (aI_cg (by omega))
                            have t199 := tA (y6_151 - 1) (by omega) (by omega)
                            refine lv_iload_n hx hb dX10_clashOf_200 rfl (lv_at hl 1 rfl) ?_
                            first | refine q_iadd hx hb dX10_clashOf_201 ⟨by omega, by omega⟩ (fun x_16 lx_16 ux_16 ex_16 => ?_) | refine q_iaddw hx hb dX10_clashOf_201 (fun x_16 lx_16 ux_16 ex_16 => ?_)
                            refine lv_iload hx hb dX10_clashOf_202 (lv_at hl 6 rfl) ?_
                            refine q_icmp_le (tgt := 210) hx hb dX10_clashOf_204 (by decide) ⟨lx_16, ux_16⟩ ⟨lx_4, ux_4⟩ (fun c204 => ?_) (fun c204 => ?_)
                            · exact J210 (by omega) (by omega) (by first | exact ht_lt g133.symm (by omega) | exact ht_0 pk2 (by omega) | exact ht_no pk2 (fun l l0 l1 => upA l _ l0 l1 (by omega)) g133.symm g199.symm (by omega) | fail "none") _ _ _ hw (lv_sub hl [0, 1, 2, 3, 4, 5] rfl)
                            · refine lv_iload hx hb dX10_clashOf_207 (lv_at hl 6 rfl) ?_
                              exact q_ret_i hx hb hr hlocks hK hAe hw ⟨lx_4, ux_4⟩ (Nat.le_of_ble_eq_true rfl) (Nat.le_of_ble_eq_true rfl) dX10_clashOf_209 ⟨rfl, rfl, by exact hc_hit be nk (by omega) (by omega) (ht_yes pj5 (by omega) (by omega) (by omega) g133.symm g199.symm (by omega) (by omega)) (fun a a0 a1 => upB _ a (by omega) a0 a1) g133.symm (by omega) (by omega)⟩
                      refine q_icmp_ge (tgt := 180) hx hb dX10_clashOf_159 (by decide) ⟨ly6_151, uy6_151⟩ ⟨lx_12, ux_12⟩ (fun c159 => ?_) (fun c159 => ?_)
                      · exact J180 (by omega) (by omega) (by exact pj4) (by first | exact PK.none (by omega) | exact PK.some (fun a a0 a1 => upA _ a (by omega) a0 a1) g133.symm g168.symm (by omega) | fail "none") _ _ _ hw (lv_sub hl [0, 1, 2, 3, 4, 5, 6] rfl)
                      · refine lv_aload_n hx hb dX10_clashOf_162 rfl (lv_at hl 0 rfl) ?_
                        refine q_getr (ci := 8) (C := RX10) (T := TX10) (N := 26) hx hb hts (fun w h => List.mem_cons_of_mem _ (mfX100 w h)) hown hK hw hs.1 hs.2.1 rfl 11 (by decide) (hts _ (List.mem_cons_of_mem _ (mr3 _ (List.mem_of_getElem? (i := 19) rfl)))) (fun _ h => h) rfl (hs.2.2.1 11 rfl).1 dX10_clashOf_163 ?_
                        refine lv_iload hx hb dX10_clashOf_166 (lv_at hl 4 rfl) ?_
                        refine q_iald hx hb hK hw (hs.2.2.1 11 rfl).2.1 1 (hs.2.2.1 11 rfl).2.2 rfl ⟨ly6_151, uy6_151⟩ (by omega) (by show _ < ((73050 : Nat) : Int); omega) dX10_clashOf_168 (fun x_17 lx_17 ux_17 ex_17 => ?_)
                        have g168 : x_17 = aI f0 (ad 11) (y6_151) := ex_17.trans (aI_cg (by omega))
                        have t168 := tA (y6_151) (by omega) (by omega)
                        refine lv_iload hx hb dX10_clashOf_169 (lv_at hl 6 rfl) ?_
                        refine q_icmp_gt (tgt := 180) hx hb dX10_clashOf_171 (by decide) ⟨lx_17, ux_17⟩ ⟨lx_4, ux_4⟩ (fun c171 => ?_) (fun c171 => ?_)
                        · exact J180 (by omega) (by omega) (by exact pj4) (by first | exact PK.none (by omega) | exact PK.some (fun a a0 a1 => upA _ a (by omega) a0 a1) g133.symm g168.symm (by omega) | fail "none") _ _ _ hw (lv_sub hl [0, 1, 2, 3, 4, 5, 6] rfl)
                        · obtain ⟨x_18, lx_18, ux_18, hx_18, ex_18⟩ := q_inc y6_151 (1)
                          try (replace ex_18 : x_18 = y6_151 + (1) := by omega)
                          refine lv_iinc (v := iI x_18) (lv' := [(6, .int (iI x_18)), (0, .ref a0), (1, .int (iI x1)), (3, .int (iI x3)), (4, .int (iI z4_107)), (7, .int (iI y7_113)), (8, .int (iI x_4))]) hx hb dX10_clashOf_174 hl (k := 4) rfl hx_18 (by decide) rfl (fun ls hl => ?_)
                          refine lv_goto (tgt := 151) hx hb dX10_clashOf_177 (by decide) ?_
                          exact ih151 x_18 lx_18 ux_18 (by omega) (by omega) (by first | exact pj3 | exact pj4.step (fun a a0 a1 => upB _ a (by omega) a0 a1) g133.symm g168.symm (by omega) (by omega) | fail "none") (by omega) _ _ _ hw (lv_sub hl [1, 2, 3, 4, 0, 5, 6] rfl)
                  exact J151 ((((2147483647 : Int) - y6_113).toNat) + 1) y6_113 ly6_113 uy6_113 (by omega) (by omega) (by first | exact pj3 | exact pj4.step (fun a a0 a1 => upB _ a (by omega) a0 a1) g133.symm g168.symm (by omega) (by omega) | fail "none") (by omega) _ _ _ hw (lv_sub hl [1, 2, 3, 4, 5, 6, 0] rfl)
                · refine lv_goto (tgt := 216) hx hb dX10_clashOf_148 (by decide) ?_
                  refine lv_iload hx hb dX10_clashOf_216 (lv_at hl 4 rfl) ?_
                  exact q_ret_i hx hb hr hlocks hK hAe hw ⟨lz4_107, uz4_107⟩ (Nat.le_of_ble_eq_true rfl) (Nat.le_of_ble_eq_true rfl) dX10_clashOf_218 ⟨rfl, rfl, by first | exact hc_best be nk (fun a a0 a1 => upB _ a (by omega) a0 a1) (Or.inl (by omega)) | exact hc_best be nk (fun a a0 a1 => upB _ a (by omega) a0 a1) (Or.inr ⟨by omega, by show _ ≤ aI f0 (ad 11) (36525 + y7_113); omega⟩) | fail "none"⟩
        exact J113 ((((2147483647 : Int) - 0).toNat) + 1) 0 (by decide) (by decide) 0 (by decide) (by decide) (by omega) (by omega) (by omega) (by omega) (by first | exact NH.start (by omega) | exact nk.step ht2 (by omega) | fail "none") (by first | exact PJ.start (by omega) | exact pj5.to (by omega) | fail "none") (by omega) _ _ _ hw (lv_sub hl [2, 3, 4, 5, 1, 0] rfl)
      refine q_icmp_ge (tgt := 107) hx hb dX10_clashOf_17 (by decide) ⟨ly6_9, uy6_9⟩ ⟨lx_1, ux_1⟩ (fun c17 => ?_) (fun c17 => ?_)
      · exact J107 ((-1)) (by decide) (by decide) (by first | exact BEx.none nh (by omega) (by omega) | exact BEx.hit nh (by omega) (by omega) (ht_yes pj2 (by omega) (by omega) (by omega) g26.symm g83.symm (by omega) (by omega)) (fun a a0 a1 => upA _ a (by omega) a0 a1) g26.symm (by omega) | fail "none") _ _ _ hw (lv_sub hl [0, 1, 3, 4] rfl)
      · refine lv_aload_n hx hb dX10_clashOf_20 rfl (lv_at hl 0 rfl) ?_
        refine q_getr (ci := 8) (C := RX10) (T := TX10) (N := 26) hx hb hts (fun w h => List.mem_cons_of_mem _ (mfX100 w h)) hown hK hw hs.1 hs.2.1 rfl 11 (by decide) (hts _ (List.mem_cons_of_mem _ (mr3 _ (List.mem_of_getElem? (i := 19) rfl)))) (fun _ h => h) rfl (hs.2.2.1 11 rfl).1 dX10_clashOf_21 ?_
        refine lv_iload hx hb dX10_clashOf_24 (lv_at hl 6 rfl) ?_
        refine q_iald hx hb hK hw (hs.2.2.1 11 rfl).2.1 1 (hs.2.2.1 11 rfl).2.2 rfl ⟨ly6_9, uy6_9⟩ (by omega) (by show _ < ((73050 : Nat) : Int); omega) dX10_clashOf_26 (fun x_19 lx_19 ux_19 ex_19 => ?_)
        have g26 : x_19 = aI f0 (ad 11) (y6_9) := ex_19.trans (aI_cg (by omega))
        have t26 := tA (y6_9) (by omega) (by omega)
        refine lv_istore (lv' := [(7, .int (iI x_19)), (0, .ref a0), (1, .int (iI x1)), (2, .int (iI x2)), (3, .int (iI x3)), (4, .int (iI ((-1)))), (5, .int (iI y5_9)), (6, .int (iI y6_9))]) hx hb dX10_clashOf_27 hl (by decide) rfl (fun ls hl => ?_)
        have J29 : ∀ (n29 : Nat) (y5_29 : Int) (ly5_29 : -2147483648 ≤ y5_29) (uy5_29 : y5_29 ≤ 2147483647) (n1 : 0 ≤ y5_29) (n2 : y5_29 ≤ nm) (pj1 : PJ (fun i : Int => aI f0 (ad 11) i) (fun j : Int => aI f0 (ad 11) (36525 + j)) nl y5_29 y6_9) (hn29 : ((2147483647 : Int) - y5_29).toNat < n29) (H : Heap) (locs : List Loc) (ls : Array Slot) (hw : Wd D A s.heap L0 f0 H locs) (hl : lv_has ls 9 [(0, .ref a0), (1, .int (iI x1)), (2, .int (iI x2)), (3, .int (iI x3)), (4, .int (iI ((-1)))), (5, .int (iI y5_29)), (6, .int (iI y6_9)), (7, .int (iI x_19))]), W p l e ({ frames := 0, cells := 0, slots := 0, locals := 0 } : Room) s m ([.ref a0, .int (iI x1), .int (iI x2), .int (iI x3)] : List Value).toArray below meth c H locs (0) (0) (MQ below (Qi D (tq cy) L0 f0 s.heap.size (fun (r : Int) (L1 : List Nat) (f1 : Nat → va_E) => L0 = L1 ∧ f0 = f1 ∧ (CA (HC (fun i : Int => aI f0 (ad 11) i) (fun j : Int => aI f0 (ad 11) (36525 + j)) nl nm x1 x2 x3) r))) ([.ref a0, .int (iI x1), .int (iI x2), .int (iI x3)] : List Value).toArray s 0 0 A) (F0 m 29 ls []) := by
          intro n29
          induction n29 with
          | zero => intro y5_29 ly5_29 uy5_29 n1 n2 pj1 hn29; exact absurd hn29 (Nat.not_lt_zero _)
          | succ n29 ih29 =>
            intro y5_29 ly5_29 uy5_29 n1 n2 pj1 hn29 H locs ls hw hl
            refine lv_iload hx hb dX10_clashOf_29 (lv_at hl 5 rfl) ?_
            refine lv_aload_n hx hb dX10_clashOf_31 rfl (lv_at hl 0 rfl) ?_
            refine q_getr (ci := 8) (C := RX10) (T := TX10) (N := 26) hx hb hts (fun w h => List.mem_cons_of_mem _ (mfX100 w h)) hown hK hw hs.1 hs.2.1 rfl 13 (by decide) (hts _ (List.mem_cons_of_mem _ (mr3 _ (List.mem_of_getElem? (i := 21) rfl)))) (fun _ h => h) rfl (hs.2.2.1 13 rfl).1 dX10_clashOf_32 ?_
            refine q_iconst hx hb dX10_clashOf_35 ?_
            refine q_iald hx hb hK hw (hs.2.2.1 13 rfl).2.1 1 (hs.2.2.1 13 rfl).2.2 rfl ⟨by decide, by decide⟩ (by omega) (by show _ < ((2 : Nat) : Int); omega) dX10_clashOf_36 (fun x_20 lx_20 ux_20 ex_20 => ?_)
            have J61 : ∀ (n1 : 0 ≤ y5_29) (n2 : y5_29 ≤ nm) (pj2 : PJ (fun i : Int => aI f0 (ad 11) i) (fun j : Int => aI f0 (ad 11) (36525 + j)) nl y5_29 y6_9) (pk : PK (fun i : Int => aI f0 (ad 11) i) (fun j : Int => aI f0 (ad 11) (36525 + j)) nm y5_29 y6_9) (H : Heap) (locs : List Loc) (ls : Array Slot) (hw : Wd D A s.heap L0 f0 H locs) (hl : lv_has ls 9 [(0, .ref a0), (1, .int (iI x1)), (2, .int (iI x2)), (3, .int (iI x3)), (4, .int (iI ((-1)))), (5, .int (iI y5_29)), (6, .int (iI y6_9)), (7, .int (iI x_19))]), W p l e ({ frames := 0, cells := 0, slots := 0, locals := 0 } : Room) s m ([.ref a0, .int (iI x1), .int (iI x2), .int (iI x3)] : List Value).toArray below meth c H locs (0) (0) (MQ below (Qi D (tq cy) L0 f0 s.heap.size (fun (r : Int) (L1 : List Nat) (f1 : Nat → va_E) => L0 = L1 ∧ f0 = f1 ∧ (CA (HC (fun i : Int => aI f0 (ad 11) i) (fun j : Int => aI f0 (ad 11) (36525 + j)) nl nm x1 x2 x3) r))) ([.ref a0, .int (iI x1), .int (iI x2), .int (iI x3)] : List Value).toArray s 0 0 A) (F0 m 61 ls []) := by
              intro n1 n2 pj2 pk H locs ls hw hl
              refine lv_iload hx hb dX10_clashOf_61 (lv_at hl 7 rfl) ?_
              refine lv_iload_n hx hb dX10_clashOf_63 rfl (lv_at hl 3 rfl) ?_
              have J101 : ∀ (n1 : 0 ≤ y5_29) (n2 : y5_29 ≤ nm) (ht1 : ¬ HT (fun i : Int => aI f0 (ad 11) i) (fun j : Int => aI f0 (ad 11) (36525 + j)) nm x2 x3 y6_9) (H : Heap) (locs : List Loc) (ls : Array Slot) (hw : Wd D A s.heap L0 f0 H locs) (hl : lv_has ls 9 [(0, .ref a0), (1, .int (iI x1)), (2, .int (iI x2)), (3, .int (iI x3)), (4, .int (iI ((-1)))), (5, .int (iI y5_29)), (6, .int (iI y6_9))]), W p l e ({ frames := 0, cells := 0, slots := 0, locals := 0 } : Room) s m ([.ref a0, .int (iI x1), .int (iI x2), .int (iI x3)] : List Value).toArray below meth c H locs (0) (0) (MQ below (Qi D (tq cy) L0 f0 s.heap.size (fun (r : Int) (L1 : List Nat) (f1 : Nat → va_E) => L0 = L1 ∧ f0 = f1 ∧ (CA (HC (fun i : Int => aI f0 (ad 11) i) (fun j : Int => aI f0 (ad 11) (36525 + j)) nl nm x1 x2 x3) r))) ([.ref a0, .int (iI x1), .int (iI x2), .int (iI x3)] : List Value).toArray s 0 0 A) (F0 m 101 ls []) := by
                intro n1 n2 ht1 H locs ls hw hl
                obtain ⟨x_21, lx_21, ux_21, hx_21, ex_21⟩ := q_inc y6_9 (1)
                try (replace ex_21 : x_21 = y6_9 + (1) := by omega)
                refine lv_iinc (v := iI x_21) (lv' := [(6, .int (iI x_21)), (0, .ref a0), (1, .int (iI x1)), (2, .int (iI x2)), (3, .int (iI x3)), (4, .int (iI ((-1)))), (5, .int (iI y5_29))]) hx hb dX10_clashOf_101 hl (k := 6) rfl hx_21 (by decide) rfl (fun ls hl => ?_)
                refine lv_goto (tgt := 9) hx hb dX10_clashOf_104 (by decide) ?_
                exact ih9 y5_29 ly5_29 uy5_29 x_21 lx_21 ux_21 (by omega) (by omega) (by omega) (by omega) (by first | exact NH.start (by omega) | exact nh.step ht1 (by omega) | fail "none") (by first | exact PJ.start (by omega) | exact pj2.to (by omega) | fail "none") (by omega) _ _ _ hw (lv_sub hl [1, 2, 3, 4, 5, 6, 0] rfl)
              refine q_icmp_lt (tgt := 101) hx hb dX10_clashOf_64 (by decide) ⟨lx_19, ux_19⟩ ⟨lx3, ux3⟩ (fun c64 => ?_) (fun c64 => ?_)
              · exact J101 (by omega) (by omega) (by first | exact ht_lt g26.symm (by omega) | exact ht_0 pk (by omega) | exact ht_no pk (fun l l0 l1 => upB l _ l0 l1 (by omega)) g26.symm g83.symm (by omega) | fail "none") _ _ _ hw (lv_sub hl [0, 1, 2, 3, 4, 5, 6] rfl)
              · refine lv_iload hx hb dX10_clashOf_67 (lv_at hl 5 rfl) ?_
                refine q_if_eq (tgt := 101) hx hb dX10_clashOf_69 (by decide) ⟨ly5_29, uy5_29⟩ (fun c69 => ?_) (fun c69 => ?_)
                · exact J101 (by omega) (by omega) (by first | exact ht_lt g26.symm (by omega) | exact ht_0 pk (by omega) | exact ht_no pk (fun l l0 l1 => upB l _ l0 l1 (by omega)) g26.symm g83.symm (by omega) | fail "none") _ _ _ hw (lv_sub hl [0, 1, 2, 3, 4, 5, 6] rfl)
                · refine lv_aload_n hx hb dX10_clashOf_72 rfl (lv_at hl 0 rfl) ?_
                  refine q_getr (ci := 8) (C := RX10) (T := TX10) (N := 26) hx hb hts (fun w h => List.mem_cons_of_mem _ (mfX100 w h)) hown hK hw hs.1 hs.2.1 rfl 11 (by decide) (hts _ (List.mem_cons_of_mem _ (mr3 _ (List.mem_of_getElem? (i := 19) rfl)))) (fun _ h => h) rfl (hs.2.2.1 11 rfl).1 dX10_clashOf_73 ?_
                  refine q_ldc (n := 36525) hx hb hown (hts _ (List.mem_cons_of_mem _ (mr3 _ (List.mem_of_getElem? (i := 9) rfl)))) rfl dX10_clashOf_76 ?_
                  refine lv_iload hx hb dX10_clashOf_78 (lv_at hl 5 rfl) ?_
                  first | refine q_iadd hx hb dX10_clashOf_80 ⟨by omega, by omega⟩ (fun x_22 lx_22 ux_22 ex_22 => ?_) | refine q_iaddw hx hb dX10_clashOf_80 (fun x_22 lx_22 ux_22 ex_22 => ?_)
                  refine q_iconst hx hb dX10_clashOf_81 ?_
                  first | refine q_isub hx hb dX10_clashOf_82 ⟨by omega, by omega⟩ (fun x_23 lx_23 ux_23 ex_23 => ?_) | refine q_isubw hx hb dX10_clashOf_82 (fun x_23 lx_23 ux_23 ex_23 => ?_)
                  refine q_iald hx hb hK hw (hs.2.2.1 11 rfl).2.1 1 (hs.2.2.1 11 rfl).2.2 rfl ⟨lx_23, ux_23⟩ (by omega) (by show _ < ((73050 : Nat) : Int); omega) dX10_clashOf_83 (fun x_24 lx_24 ux_24 ex_24 => ?_)
                  have g83 : x_24 = aI f0 (ad 11) (36525 + (y5_29 - 1)) := ex_24.trans (aI_cg (by omega))
                  have t83 := tB (y5_29 - 1) (by omega) (by omega)
                  refine lv_iload_n hx hb dX10_clashOf_84 rfl (lv_at hl 2 rfl) ?_
                  first | refine q_iadd hx hb dX10_clashOf_85 ⟨by omega, by omega⟩ (fun x_25 lx_25 ux_25 ex_25 => ?_) | refine q_iaddw hx hb dX10_clashOf_85 (fun x_25 lx_25 ux_25 ex_25 => ?_)
                  refine lv_iload hx hb dX10_clashOf_86 (lv_at hl 7 rfl) ?_
                  refine q_icmp_gt (tgt := 94) hx hb dX10_clashOf_88 (by decide) ⟨lx_25, ux_25⟩ ⟨lx_19, ux_19⟩ (fun c88 => ?_) (fun c88 => ?_)
                  · refine lv_iload hx hb dX10_clashOf_94 (lv_at hl 7 rfl) ?_
                    refine lv_istore (lv' := [(4, .int (iI x_19)), (0, .ref a0), (1, .int (iI x1)), (2, .int (iI x2)), (3, .int (iI x3)), (5, .int (iI y5_29)), (6, .int (iI y6_9)), (7, .int (iI x_19))]) hx hb dX10_clashOf_96 hl (by decide) rfl (fun ls hl => ?_)
                    refine lv_goto (tgt := 107) hx hb dX10_clashOf_98 (by decide) ?_
                    exact J107 x_19 lx_19 ux_19 (by first | exact BEx.none nh (by omega) (by omega) | exact BEx.hit nh (by omega) (by omega) (ht_yes pj2 (by omega) (by omega) (by omega) g26.symm g83.symm (by omega) (by omega)) (fun a a0 a1 => upA _ a (by omega) a0 a1) g26.symm (by omega) | fail "none") _ _ _ hw (lv_sub hl [1, 2, 4, 0] rfl)
                  · refine lv_goto (tgt := 101) hx hb dX10_clashOf_91 (by decide) ?_
                    exact J101 (by omega) (by omega) (by first | exact ht_lt g26.symm (by omega) | exact ht_0 pk (by omega) | exact ht_no pk (fun l l0 l1 => upB l _ l0 l1 (by omega)) g26.symm g83.symm (by omega) | fail "none") _ _ _ hw (lv_sub hl [0, 1, 2, 3, 4, 5, 6] rfl)
            refine q_icmp_ge (tgt := 61) hx hb dX10_clashOf_37 (by decide) ⟨ly5_29, uy5_29⟩ ⟨lx_20, ux_20⟩ (fun c37 => ?_) (fun c37 => ?_)
            · exact J61 (by omega) (by omega) (by exact pj1) (by first | exact PK.none (by omega) | exact PK.some (fun a a0 a1 => upB _ a (by omega) a0 a1) g26.symm g49.symm (by omega) | fail "none") _ _ _ hw (lv_sub hl [0, 1, 2, 3, 4, 5, 6, 7] rfl)
            · refine lv_aload_n hx hb dX10_clashOf_40 rfl (lv_at hl 0 rfl) ?_
              refine q_getr (ci := 8) (C := RX10) (T := TX10) (N := 26) hx hb hts (fun w h => List.mem_cons_of_mem _ (mfX100 w h)) hown hK hw hs.1 hs.2.1 rfl 11 (by decide) (hts _ (List.mem_cons_of_mem _ (mr3 _ (List.mem_of_getElem? (i := 19) rfl)))) (fun _ h => h) rfl (hs.2.2.1 11 rfl).1 dX10_clashOf_41 ?_
              refine q_ldc (n := 36525) hx hb hown (hts _ (List.mem_cons_of_mem _ (mr3 _ (List.mem_of_getElem? (i := 9) rfl)))) rfl dX10_clashOf_44 ?_
              refine lv_iload hx hb dX10_clashOf_46 (lv_at hl 5 rfl) ?_
              first | refine q_iadd hx hb dX10_clashOf_48 ⟨by omega, by omega⟩ (fun x_26 lx_26 ux_26 ex_26 => ?_) | refine q_iaddw hx hb dX10_clashOf_48 (fun x_26 lx_26 ux_26 ex_26 => ?_)
              refine q_iald hx hb hK hw (hs.2.2.1 11 rfl).2.1 1 (hs.2.2.1 11 rfl).2.2 rfl ⟨lx_26, ux_26⟩ (by omega) (by show _ < ((73050 : Nat) : Int); omega) dX10_clashOf_49 (fun x_27 lx_27 ux_27 ex_27 => ?_)
              have g49 : x_27 = aI f0 (ad 11) (36525 + (y5_29)) := ex_27.trans (aI_cg (by omega))
              have t49 := tB (y5_29) (by omega) (by omega)
              refine lv_iload hx hb dX10_clashOf_50 (lv_at hl 7 rfl) ?_
              refine q_icmp_gt (tgt := 61) hx hb dX10_clashOf_52 (by decide) ⟨lx_27, ux_27⟩ ⟨lx_19, ux_19⟩ (fun c52 => ?_) (fun c52 => ?_)
              · exact J61 (by omega) (by omega) (by exact pj1) (by first | exact PK.none (by omega) | exact PK.some (fun a a0 a1 => upB _ a (by omega) a0 a1) g26.symm g49.symm (by omega) | fail "none") _ _ _ hw (lv_sub hl [0, 1, 2, 3, 4, 5, 6, 7] rfl)
              · obtain ⟨x_28, lx_28, ux_28, hx_28, ex_28⟩ := q_inc y5_29 (1)
                try (replace ex_28 : x_28 = y5_29 + (1) := by omega)
                refine lv_iinc (v := iI x_28) (lv' := [(5, .int (iI x_28)), (0, .ref a0), (1, .int (iI x1)), (2, .int (iI x2)), (3, .int (iI x3)), (4, .int (iI ((-1)))), (6, .int (iI y6_9)), (7, .int (iI x_19))]) hx hb dX10_clashOf_55 hl (k := 5) rfl hx_28 (by decide) rfl (fun ls hl => ?_)
                refine lv_goto (tgt := 29) hx hb dX10_clashOf_58 (by decide) ?_
                exact ih29 x_28 lx_28 ux_28 (by omega) (by omega) (by first | exact pj | exact pj1.step (fun a a0 a1 => upA _ a (by omega) a0 a1) g26.symm g49.symm (by omega) (by omega) | fail "none") (by omega) _ _ _ hw (lv_sub hl [1, 2, 3, 4, 5, 0, 6, 7] rfl)
        exact J29 ((((2147483647 : Int) - y5_9).toNat) + 1) y5_9 ly5_9 uy5_9 (by omega) (by omega) (by first | exact pj | exact pj1.step (fun a a0 a1 => upA _ a (by omega) a0 a1) g26.symm g49.symm (by omega) (by omega) | fail "none") (by omega) _ _ _ hw (lv_sub hl [1, 2, 3, 4, 5, 6, 7, 0] rfl)
  exact J9 ((((2147483647 : Int) - 0).toNat) + 1) 0 (by decide) (by decide) 0 (by decide) (by decide) (by omega) (by omega) (by omega) (by omega) (by first | exact NH.start (by omega) | exact nh.step ht1 (by omega) | fail "none") (by first | exact PJ.start (by omega) | exact pj2.to (by omega) | fail "none") (by omega) _ _ _ hw (lv_sub hl [3, 4, 5, 6, 2, 1, 0] rfl)