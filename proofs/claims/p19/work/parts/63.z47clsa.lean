set_option maxHeartbeats 4000000 in
set_option maxRecDepth 100000 in
theorem c_X9_areTwo_f {Z : Zt} (zo : Zok Z) (l : Launch) (D : va_G) (cy : Cy) (L0 : List Nat) (f0 : Nat → va_E) (a0 : Nat) (x1 : Int) (lx1 : -2147483648 ≤ x1) (ux1 : x1 ≤ 2147483647) (x2 : Int) (lx2 : -2147483648 ≤ x2) (ux2 : x2 ≤ 2147483647) (m_a0 : a0 ∈ L0) (o_a0 : Ob f0 a0 7) (hg : GI cy L0 f0) (rq : Int → Nat) (g : Int → Int) (mm : Int) (sx : SX f0 a0 rq g mm) : Ci Z l yX9_areTwo (Cond.code yX9_areTwo cX9_areTwo 3 (some .boolean) :: TB) ({ frames := 1, cells := 0, slots := 0, locals := 21 } : Room) 0 0 D (tq cy) [.ref a0, .int (iI x1), .int (iI x2)] L0 f0 (fun (r : Int) (L1 : List Nat) (f1 : Nat → va_E) => L0 = L1 ∧ f0 = f1 ∧ ((r = 1 ∧ (0 ≤ x1 ∧ x1 < mm ∧ 0 ≤ x2 ∧ x2 < mm ∧ x1 ≠ x2)) ∨ (r = 0 ∧ ¬ (0 ≤ x1 ∧ x1 < mm ∧ 0 ≤ x2 ∧ x2 < mm ∧ x1 ≠ x2)))) := by
  refine Ci.enter (cc := cX9_areTwo) (n := 3) rfl (plainFor_of_name (by decide)) (Nat.le_of_ble_eq_true rfl) ?_
  intro p e s m below meth c ls A hx hb hr hts hown hlocks hnm hml hK hA hAe hw hZ hl
  have hown : s.vm.findClass RX9 = some m.cls := hown
  have hl : lv_has ls 3 [(0, .ref a0), (1, .int (iI x1)), (2, .int (iI x2))] := hl
  have hN : ZN s := (zo.2.2.2.2 _ _ _ hZ).2
  refine lv_aload_n hx hb dX9_areTwo_0 rfl (lv_at hl 0 rfl) ?_
  obtain ⟨r_1, er_1, m_r_1, o_r_1⟩ := (show ∃ r, fR f0 a0 2 = some r ∧ r ∈ L0 ∧ Ob f0 r 5 from hg.2.1 _ m_a0 7 2 o_a0)
  refine q_getr (ci := 7) (C := RX9) (T := TX9) (N := 4) hx hb hts (fun w h => List.mem_cons_of_mem _ (mfX90 w h)) hown hK hw m_a0 o_a0 rfl 2 (by decide) (hts _ (List.mem_cons_of_mem _ (mr1 _ (List.mem_of_getElem? (i := 20) rfl)))) (fun _ h => h) rfl er_1 dX9_areTwo_1 ?_
  have s1 := sx.at er_1
  refine lv_iload_n hx hb dX9_areTwo_4 rfl (lv_at hl 1 rfl) ?_
  refine q_call_i hA hK hw (va_runV (As := [.int (iI x1)]) (rest := []) ⟨hx, hb, hml, hown, hts⟩ (c_X7_has_f zo l D cy L0 f0 r_1 x1 lx1 ux1 m_r_1 o_r_1 hg _) (cwV 1 hts (gT (inV (mr22 _ (List.mem_of_getElem? (i := 9) rfl)) (mr22 _ (List.mem_of_getElem? (i := 10) rfl)) (mr22 _ (List.mem_of_getElem? (i := 11) rfl)) (mr1 _ (List.mem_of_getElem? (i := 19) rfl)) (mr22 _ (List.mem_of_getElem? (i := 12) rfl)))) rfl rfl rfl (by decide +kernel) ⟨Nat.le_of_ble_eq_true rfl, Nat.le_of_ble_eq_true rfl⟩) (Wd.preV zo hA hZ hw hK m_r_1 o_r_1 rfl) rfl rfl hl.1 rfl (lv_room (Nat.le_of_ble_eq_true rfl)) dX9_areTwo_5 ⟨Nat.le_of_ble_eq_true rfl, Nat.le_of_ble_eq_true rfl⟩) (fun x_2 L1 f1 H locs lx_2 ux_2 ex_2 hw => ?_)
  obtain ⟨rfl, rfl, ex_2⟩ := ex_2
  refine q_if_eq (tgt := 31) hx hb dX9_areTwo_8 (by decide) ⟨lx_2, ux_2⟩ (fun c8 => ?_) (fun c8 => ?_)
  · refine q_iconst hx hb dX9_areTwo_31 ?_
    exact q_ret_z hx hb hr hlocks hK hAe hw (by omega) (Nat.le_of_ble_eq_true rfl) (Nat.le_of_ble_eq_true rfl) dX9_areTwo_32 ⟨rfl, rfl, by first | exact Or.inl ⟨rfl, by omega⟩ | exact Or.inr ⟨rfl, by omega⟩ | fail "none"⟩
  · refine lv_aload_n hx hb dX9_areTwo_11 rfl (lv_at hl 0 rfl) ?_
    refine q_getr (ci := 7) (C := RX9) (T := TX9) (N := 4) hx hb hts (fun w h => List.mem_cons_of_mem _ (mfX90 w h)) hown hK hw m_a0 o_a0 rfl 2 (by decide) (hts _ (List.mem_cons_of_mem _ (mr1 _ (List.mem_of_getElem? (i := 20) rfl)))) (fun _ h => h) rfl er_1 dX9_areTwo_12 ?_
    have s1 := sx.at er_1
    refine lv_iload_n hx hb dX9_areTwo_15 rfl (lv_at hl 2 rfl) ?_
    refine q_call_i hA hK hw (va_runV (As := [.int (iI x2)]) (rest := []) ⟨hx, hb, hml, hown, hts⟩ (c_X7_has_f zo l D cy L0 f0 r_1 x2 lx2 ux2 m_r_1 o_r_1 hg _) (cwV 1 hts (gT (inV (mr22 _ (List.mem_of_getElem? (i := 9) rfl)) (mr22 _ (List.mem_of_getElem? (i := 10) rfl)) (mr22 _ (List.mem_of_getElem? (i := 11) rfl)) (mr1 _ (List.mem_of_getElem? (i := 19) rfl)) (mr22 _ (List.mem_of_getElem? (i := 12) rfl)))) rfl rfl rfl (by decide +kernel) ⟨Nat.le_of_ble_eq_true rfl, Nat.le_of_ble_eq_true rfl⟩) (Wd.preV zo hA hZ hw hK m_r_1 o_r_1 rfl) rfl rfl hl.1 rfl (lv_room (Nat.le_of_ble_eq_true rfl)) dX9_areTwo_16 ⟨Nat.le_of_ble_eq_true rfl, Nat.le_of_ble_eq_true rfl⟩) (fun x_3 L1 f1 H locs lx_3 ux_3 ex_3 hw => ?_)
    obtain ⟨rfl, rfl, ex_3⟩ := ex_3
    refine q_if_eq (tgt := 31) hx hb dX9_areTwo_19 (by decide) ⟨lx_3, ux_3⟩ (fun c19 => ?_) (fun c19 => ?_)
    · refine q_iconst hx hb dX9_areTwo_31 ?_
      exact q_ret_z hx hb hr hlocks hK hAe hw (by omega) (Nat.le_of_ble_eq_true rfl) (Nat.le_of_ble_eq_true rfl) dX9_areTwo_32 ⟨rfl, rfl, by first | exact Or.inl ⟨rfl, by omega⟩ | exact Or.inr ⟨rfl, by omega⟩ | fail "none"⟩
    · refine lv_iload_n hx hb dX9_areTwo_22 rfl (lv_at hl 1 rfl) ?_
      refine lv_iload_n hx hb dX9_areTwo_23 rfl (lv_at hl 2 rfl) ?_
      refine q_icmp_eq (tgt := 31) hx hb dX9_areTwo_24 (by decide) ⟨lx1, ux1⟩ ⟨lx2, ux2⟩ (fun c24 => ?_) (fun c24 => ?_)
      · refine q_iconst hx hb dX9_areTwo_31 ?_
        exact q_ret_z hx hb hr hlocks hK hAe hw (by omega) (Nat.le_of_ble_eq_true rfl) (Nat.le_of_ble_eq_true rfl) dX9_areTwo_32 ⟨rfl, rfl, by first | exact Or.inl ⟨rfl, by omega⟩ | exact Or.inr ⟨rfl, by omega⟩ | fail "none"⟩
      · refine q_iconst hx hb dX9_areTwo_27 ?_
        refine lv_goto (tgt := 32) hx hb dX9_areTwo_28 (by decide) ?_
        exact q_ret_z hx hb hr hlocks hK hAe hw (by omega) (Nat.le_of_ble_eq_true rfl) (Nat.le_of_ble_eq_true rfl) dX9_areTwo_32 ⟨rfl, rfl, by first | exact Or.inl ⟨rfl, by omega⟩ | exact Or.inr ⟨rfl, by omega⟩ | fail "none"⟩
set_option maxHeartbeats 4000000 in
set_option maxRecDepth 100000 in
theorem c_X9_countMet_o {Z : Zt} (zo : Zok Z) (l : Launch) (D : va_G) (cy : Cy) (L0 : List Nat) (f0 : Nat → va_E) (a0 : Nat) (a1 : Nat) (x2 : Int) (lx2 : -2147483648 ≤ x2) (ux2 : x2 ≤ 2147483647) (x3 : Int) (lx3 : -2147483648 ≤ x3) (ux3 : x3 ≤ 2147483647) (x4 : Int) (lx4 : -2147483648 ≤ x4) (ux4 : x4 ≤ 2147483647) (m_a0 : a0 ∈ L0) (o_a0 : Ob f0 a0 0) (m_a1 : a1 ∈ L0) (o_a1 : Ob f0 a1 0) (hg : GI cy L0 f0) (g : Int → Int) (p0 : Int) (rb : RB f0 a0 g p0) (O : Int → Int) (oc : OC f0 a0 O) (hk : OKk g p0 O) (m0 : 0 ≤ g (p0 + 1)) (m1 : g (p0 + 1) ≤ 1439) (p1 : Int) (rb1 : RB f0 a1 g p1) (O1 : Int → Int) (oc1 : OC f0 a1 O1) (hk1 : OKk g p1 O1) (n0 : 0 ≤ g (p1 + 1)) (n1 : g (p1 + 1) ≤ 1439) (k0 : 1 ≤ g (p1 + 2)) (k1 : g (p1 + 2) ≤ 4320) (u0 : 0 ≤ x2) (u1 : x2 ≤ 60000000) (v0 : 0 ≤ x3) (v1 : x3 ≤ 60000000) (w0 : 0 ≤ x4) (w1 : x4 ≤ 1) : Ci Z l yX9_countMet (Cond.code yX9_countMet cX9_countMet 8 (some .int) :: TB) ({ frames := 5, cells := 0, slots := 0, locals := 122 } : Room) 0 0 D (tq cy) [.ref a0, .ref a1, .int (iI x2), .int (iI x3), .int (iI x4)] L0 f0 (fun (r : Int) (L1 : List Nat) (f1 : Nat → va_E) => L0 = L1 ∧ GI cy L0 f1 ∧ Eh cy f0 f1 ∧ (CMR (Oc g p0 O) x2 x3 (fun t => NB g p1 O1 (t - g (p1 + 2) + 1) (t - x4)) r ∧ 0 ≤ r ∧ r ≤ 1334075625)) := by
  refine Ci.enter (cc := cX9_countMet) (n := 8) rfl (plainFor_of_name (by decide)) (Nat.le_of_ble_eq_true rfl) ?_
  intro p e s m below meth c ls A hx hb hr hts hown hlocks hnm hml hK hA hAe hw hZ hl
  have hown : s.vm.findClass RX9 = some m.cls := hown
  have hl : lv_has ls 8 [(0, .ref a0), (1, .ref a1), (2, .int (iI x2)), (3, .int (iI x3)), (4, .int (iI x4))] := hl
  have hN : ZN s := (zo.2.2.2.2 _ _ _ hZ).2
  have hE : Eh cy f0 f0 := Eh.refl cy f0
  have pko := rb.pk hk m0 m1
  refine q_iconst hx hb dX9_countMet_0 ?_
  refine lv_istore (lv' := [(5, .int (iI 0)), (0, .ref a0), (1, .ref a1), (2, .int (iI x2)), (3, .int (iI x3)), (4, .int (iI x4))]) hx hb dX9_countMet_1 hl (by decide) rfl (fun ls hl => ?_)
  refine lv_aload_n hx hb dX9_countMet_3 rfl (lv_at hl 1 rfl) ?_
  refine lv_iload_n hx hb dX9_countMet_4 rfl (lv_at hl 3 rfl) ?_
  refine q_iconst hx hb dX9_countMet_5 ?_
  refine q_call_i hA hK hw (va_runV (As := [.int (iI x2), .int (iI 0)]) (rest := []) ⟨hx, hb, hml, hown, hts⟩ (c_X0_seek_o zo l D cy L0 f0 a0 x2 lx2 ux2 0 (by decide) (by decide) m_a0 o_a0 hg g p0 rb O oc hk m0 m1 (by omega) (by omega) _) (cwV 2 hts (gT (inV (mr29 _ (List.mem_of_getElem? (i := 7) rfl)) (mr29 _ (List.mem_of_getElem? (i := 8) rfl)) (mr29 _ (List.mem_of_getElem? (i := 9) rfl)) (mr2 _ (List.mem_of_getElem? (i := 9) rfl)) (mr29 _ (List.mem_of_getElem? (i := 10) rfl)))) rfl rfl rfl (by decide +kernel) ⟨Nat.le_of_ble_eq_true rfl, Nat.le_of_ble_eq_true rfl⟩) (Wd.preV zo hA hZ hw hK m_a0 o_a0 rfl) rfl rfl hl.1 rfl (lv_room (Nat.le_of_ble_eq_true rfl)) dX9_countMet_6 ⟨Nat.le_of_ble_eq_true rfl, Nat.le_of_ble_eq_true rfl⟩) (fun x_1 L1 f_2 H locs lx_1 ux_1 ex_1 hw => ?_)
  obtain ⟨rfl, hg, hX, ex_1⟩ := ex_1
  have hE := hE.trans hX
  have o_a0 := hX.1.1.1 _ _ o_a0
  have o_a1 := hX.1.1.1 _ _ o_a1
  have s6 : Sk (Oc g p0 O) x2 0 _ _ := ex_1.1.arg (by omega) (by omega)
  have d6 := ex_1.2
  have g6 := s6.rg pko
  clear ex_1
  refine lv_istore (lv' := [(6, .int (iI x_1)), (5, .int (iI 0)), (0, .ref a0), (1, .ref a1), (2, .int (iI x2)), (3, .int (iI x3)), (4, .int (iI x4))]) hx hb dX9_countMet_9 hl (by decide) rfl (fun ls hl => ?_)
  refine q_iconst hx hb dX9_countMet_11 ?_
  refine lv_istore (lv' := [(7, .int (iI 0)), (6, .int (iI x_1)), (5, .int (iI 0)), (0, .ref a0), (1, .ref a1), (2, .int (iI x2)), (3, .int (iI x3)), (4, .int (iI x4))]) hx hb dX9_countMet_12 hl (by decide) rfl (fun ls hl => ?_)
  have J14 : ∀ (n14 : Nat) (y5_14 : Int) (ly5_14 : -2147483648 ≤ y5_14) (uy5_14 : y5_14 ≤ 2147483647) (y6_14 : Int) (ly6_14 : -2147483648 ≤ y6_14) (uy6_14 : y6_14 ≤ 2147483647) (y7_14 : Int) (ly7_14 : -2147483648 ≤ y7_14) (uy7_14 : y7_14 ≤ 2147483647) (L : List Nat) (fw14 : Nat → va_E) (hg : GI cy L0 fw14) (hE : Eh cy f0 fw14) (o_a0 : Ob fw14 a0 0) (o_a1 : Ob fw14 a1 0) (i1 : 0 ≤ y7_14) (i2 : y7_14 ≤ 36525) (c0 : 0 ≤ y5_14) (c1 : y5_14 ≤ 36525 * y7_14) (dm : (y6_14 = 1 ∧ fI fw14 a0 14 ≠ -1) ∨ (y6_14 = 0 ∧ fI fw14 a0 14 = -1)) (gm : (fI fw14 a0 14 = -1 ∧ fI fw14 a0 13 = 2147483647) ∨ (0 ≤ fI fw14 a0 14 ∧ fI fw14 a0 14 ≤ 36524 ∧ 0 ≤ fI fw14 a0 13 ∧ fI fw14 a0 13 ≤ 52595999)) (cm : CMA (Oc g p0 O) x2 x3 (fun t => NB g p1 O1 (t - g (p1 + 2) + 1) (t - x4)) (fI fw14 a0 13) (fI fw14 a0 14) y7_14 y5_14) (hn14 : ((2147483647 : Int) - y7_14).toNat < n14) (H : Heap) (locs : List Loc) (ls : Array Slot) (hw : Wd D A s.heap L0 fw14 H locs) (hl : lv_has ls 8 [(0, .ref a0), (1, .ref a1), (3, .int (iI x3)), (4, .int (iI x4)), (5, .int (iI y5_14)), (6, .int (iI y6_14)), (7, .int (iI y7_14))]), W p l e ({ frames := 5, cells := 0, slots := 0, locals := 122 } : Room) s m ([.ref a0, .ref a1, .int (iI x2), .int (iI x3), .int (iI x4)] : List Value).toArray below meth c H locs (0 + 0) (0 + 0) (MQ below (Qi D (tq cy) L0 f0 s.heap.size (fun (r : Int) (L1 : List Nat) (f1 : Nat → va_E) => L0 = L1 ∧ GI cy L0 f1 ∧ Eh cy f0 f1 ∧ (CMR (Oc g p0 O) x2 x3 (fun t => NB g p1 O1 (t - g (p1 + 2) + 1) (t - x4)) r ∧ 0 ≤ r ∧ r ≤ 1334075625))) ([.ref a0, .ref a1, .int (iI x2), .int (iI x3), .int (iI x4)] : List Value).toArray s 0 0 A) (F0 m 14 ls []) := by
    intro n14
    induction n14 with
    | zero => intro y5_14 ly5_14 uy5_14 y6_14 ly6_14 uy6_14 y7_14 ly7_14 uy7_14 L fw14 hg hE o_a0 o_a1 i1 i2 c0 c1 dm gm cm hn14; exact absurd hn14 (Nat.not_lt_zero _)
    | succ n14 ih14 =>
      intro y5_14 ly5_14 uy5_14 y6_14 ly6_14 uy6_14 y7_14 ly7_14 uy7_14 L fw14 hg hE o_a0 o_a1 i1 i2 c0 c1 dm gm cm hn14 H locs ls hw hl
      have rbf := rb.eh hE
      have ocf := oc.eh hE
      have rb1f := rb1.eh hE
      have oc1f := oc1.eh hE
      obtain ⟨tT, etT⟩ : ∃ z : Int, z = fI fw14 a0 13 := ⟨_, rfl⟩
      obtain ⟨tK, etK⟩ : ∃ z : Int, z = fI fw14 a0 14 := ⟨_, rfl⟩
      rw [← etT, ← etK] at cm
      refine lv_iload hx hb dX9_countMet_14 (lv_at hl 6 rfl) ?_
      refine q_ldc (n := 36524) hx hb hown (hts _ (List.mem_cons_of_mem _ (mr23 _ (List.mem_of_getElem? (i := 16) rfl)))) rfl dX9_countMet_16 ?_
      refine q_icmp_gt (tgt := 83) hx hb dX9_countMet_18 (by decide) ⟨ly7_14, uy7_14⟩ ⟨by decide, by decide⟩ (fun c18 => ?_) (fun c18 => ?_)
      · refine lv_iload hx hb dX9_countMet_83 (lv_at hl 4 rfl) ?_
        exact q_ret_i hx hb hr hlocks hK hAe hw ⟨ly5_14, uy5_14⟩ (Nat.le_of_ble_eq_true rfl) (Nat.le_of_ble_eq_true rfl) dX9_countMet_85 (by exact ⟨rfl, hg, hE, cm.out (fun t k z => (pko t k z).1) (by omega), by omega, by omega⟩)
      · refine lv_iload hx hb dX9_countMet_21 (lv_at hl 5 rfl) ?_
        refine q_if_eq (tgt := 83) hx hb dX9_countMet_23 (by decide) ⟨ly6_14, uy6_14⟩ (fun c23 => ?_) (fun c23 => ?_)
        · refine lv_iload hx hb dX9_countMet_83 (lv_at hl 4 rfl) ?_
          exact q_ret_i hx hb hr hlocks hK hAe hw ⟨ly5_14, uy5_14⟩ (Nat.le_of_ble_eq_true rfl) (Nat.le_of_ble_eq_true rfl) dX9_countMet_85 (by exact ⟨rfl, hg, hE, cm.out (fun t k z => (pko t k z).1) (by omega), by omega, by omega⟩)
        · refine lv_aload_n hx hb dX9_countMet_26 rfl (lv_at hl 0 rfl) ?_
          refine q_geti (ci := 0) (C := RX0) (T := TX0) (N := 15) hx hb hts (fun w h => List.mem_cons_of_mem _ (mfX00 w h)) hown hK hw m_a0 o_a0 rfl 13 (by decide) (hts _ (List.mem_cons_of_mem _ (mr34 _ (List.mem_of_getElem? (i := 4) rfl)))) (fun _ h => h) rfl dX9_countMet_27 (fun x_3 lx_3 ux_3 ex_3 => ?_)
          refine lv_iload_n hx hb dX9_countMet_30 rfl (lv_at hl 2 rfl) ?_
          refine q_icmp_gt (tgt := 83) hx hb dX9_countMet_31 (by decide) ⟨lx_3, ux_3⟩ ⟨lx3, ux3⟩ (fun c31 => ?_) (fun c31 => ?_)
          · refine lv_iload hx hb dX9_countMet_83 (lv_at hl 4 rfl) ?_
            exact q_ret_i hx hb hr hlocks hK hAe hw ⟨ly5_14, uy5_14⟩ (Nat.le_of_ble_eq_true rfl) (Nat.le_of_ble_eq_true rfl) dX9_countMet_85 (by exact ⟨rfl, hg, hE, cm.out (fun t k z => (pko t k z).1) (by omega), by omega, by omega⟩)
          · refine lv_iload hx hb dX9_countMet_34 (lv_at hl 4 rfl) ?_
            refine lv_aload_n hx hb dX9_countMet_36 rfl (lv_at hl 1 rfl) ?_
            refine lv_aload_n hx hb dX9_countMet_37 rfl (lv_at hl 0 rfl) ?_
            refine q_geti (ci := 0) (C := RX0) (T := TX0) (N := 15) hx hb hts (fun w h => List.mem_cons_of_mem _ (mfX00 w h)) hown hK hw m_a0 o_a0 rfl 13 (by decide) (hts _ (List.mem_cons_of_mem _ (mr34 _ (List.mem_of_getElem? (i := 4) rfl)))) (fun _ h => h) rfl dX9_countMet_38 (fun x_4 lx_4 ux_4 ex_4 => ?_)
            refine lv_aload_n hx hb dX9_countMet_41 rfl (lv_at hl 1 rfl) ?_
            refine q_geti (ci := 0) (C := RX0) (T := TX0) (N := 15) hx hb hts (fun w h => List.mem_cons_of_mem _ (mfX00 w h)) hown hK hw m_a1 o_a1 rfl 2 (by decide) (hts _ (List.mem_cons_of_mem _ (mr32 _ (List.mem_of_getElem? (i := 9) rfl)))) (fun _ h => h) rfl dX9_countMet_42 (fun x_5 lx_5 ux_5 ex_5 => ?_)
            have l42 : x_5 = g (p1 + 2) := ex_5.trans rb1f.1.1.2.2.1
            first | refine q_isub hx hb dX9_countMet_45 ⟨by omega, by omega⟩ (fun x_6 lx_6 ux_6 ex_6 => ?_) | refine q_isubw hx hb dX9_countMet_45 (fun x_6 lx_6 ux_6 _ => ?_)
            refine q_iconst hx hb dX9_countMet_46 ?_
            first | refine q_iadd hx hb dX9_countMet_47 ⟨by omega, by omega⟩ (fun x_7 lx_7 ux_7 ex_7 => ?_) | refine q_iaddw hx hb dX9_countMet_47 (fun x_7 lx_7 ux_7 _ => ?_)
            refine lv_aload_n hx hb dX9_countMet_48 rfl (lv_at hl 0 rfl) ?_
            refine q_geti (ci := 0) (C := RX0) (T := TX0) (N := 15) hx hb hts (fun w h => List.mem_cons_of_mem _ (mfX00 w h)) hown hK hw m_a0 o_a0 rfl 13 (by decide) (hts _ (List.mem_cons_of_mem _ (mr34 _ (List.mem_of_getElem? (i := 4) rfl)))) (fun _ h => h) rfl dX9_countMet_49 (fun x_8 lx_8 ux_8 ex_8 => ?_)
            refine lv_iload hx hb dX9_countMet_52 (lv_at hl 3 rfl) ?_
            first | refine q_isub hx hb dX9_countMet_54 ⟨by omega, by omega⟩ (fun x_9 lx_9 ux_9 ex_9 => ?_) | refine q_isubw hx hb dX9_countMet_54 (fun x_9 lx_9 ux_9 _ => ?_)
            refine q_call_i hA hK hw (va_runV (As := [.int (iI x_7), .int (iI x_9)]) (rest := [.int (iI y5_14)]) ⟨hx, hb, hml, hown, hts⟩ (c_X0_beginsIn_o zo l D cy L0 fw14 a1 x_7 lx_7 ux_7 x_9 lx_9 ux_9 m_a1 o_a1 hg g p1 rb1f O1 oc1f hk1 n0 n1 (by omega) (by omega) (by omega) (by omega) _) (cwV 2 hts (gT (inV (mr31 _ (List.mem_of_getElem? (i := 15) rfl)) (mr31 _ (List.mem_of_getElem? (i := 16) rfl)) (mr31 _ (List.mem_of_getElem? (i := 17) rfl)) (mr2 _ (List.mem_of_getElem? (i := 9) rfl)) (mr31 _ (List.mem_of_getElem? (i := 18) rfl)))) rfl rfl rfl (by decide +kernel) ⟨Nat.le_of_ble_eq_true rfl, Nat.le_of_ble_eq_true rfl⟩) (Wd.preV zo hA hZ hw hK m_a1 o_a1 rfl) rfl rfl hl.1 rfl (lv_room (Nat.le_of_ble_eq_true rfl)) dX9_countMet_55 ⟨Nat.le_of_ble_eq_true rfl, Nat.le_of_ble_eq_true rfl⟩) (fun x_10 L1 f1 H locs lx_10 ux_10 ex_10 hw => ?_)
            obtain ⟨rfl, rfl, ex_10⟩ := ex_10
            have f55 : x_10 = NB g p1 O1 (tT - g (p1 + 2) + 1) (tT - x4) := nb_arg ex_10 (by omega) (by omega)
            have b55 : 0 ≤ x_10 ∧ x_10 ≤ 36525 := by rw [f55]; exact nb_b
            clear ex_10
            first | refine q_iadd hx hb dX9_countMet_58 ⟨by omega, by omega⟩ (fun x_11 lx_11 ux_11 ex_11 => ?_) | refine q_iaddw hx hb dX9_countMet_58 (fun x_11 lx_11 ux_11 _ => ?_)
            refine lv_istore (lv' := [(5, .int (iI x_11)), (0, .ref a0), (1, .ref a1), (3, .int (iI x3)), (4, .int (iI x4)), (6, .int (iI y6_14)), (7, .int (iI y7_14))]) hx hb dX9_countMet_59 hl (by decide) rfl (fun ls hl => ?_)
            refine lv_aload_n hx hb dX9_countMet_61 rfl (lv_at hl 1 rfl) ?_
            refine lv_aload_n hx hb dX9_countMet_62 rfl (lv_at hl 1 rfl) ?_
            refine q_geti (ci := 0) (C := RX0) (T := TX0) (N := 15) hx hb hts (fun w h => List.mem_cons_of_mem _ (mfX00 w h)) hown hK hw m_a0 o_a0 rfl 13 (by decide) (hts _ (List.mem_cons_of_mem _ (mr34 _ (List.mem_of_getElem? (i := 4) rfl)))) (fun _ h => h) rfl dX9_countMet_63 (fun x_12 lx_12 ux_12 ex_12 => ?_)
            refine lv_aload_n hx hb dX9_countMet_66 rfl (lv_at hl 1 rfl) ?_
            refine q_geti (ci := 0) (C := RX0) (T := TX0) (N := 15) hx hb hts (fun w h => List.mem_cons_of_mem _ (mfX00 w h)) hown hK hw m_a0 o_a0 rfl 14 (by decide) (hts _ (List.mem_cons_of_mem _ (mr34 _ (List.mem_of_getElem? (i := 3) rfl)))) (fun _ h => h) rfl dX9_countMet_67 (fun x_13 lx_13 ux_13 ex_13 => ?_)
            refine q_iconst hx hb dX9_countMet_70 ?_
            first | refine q_iadd hx hb dX9_countMet_71 ⟨by omega, by omega⟩ (fun x_14 lx_14 ux_14 ex_14 => ?_) | refine q_iaddw hx hb dX9_countMet_71 (fun x_14 lx_14 ux_14 _ => ?_)
            refine q_call_i hA hK hw (va_runV (As := [.int (iI x_12), .int (iI x_14)]) (rest := []) ⟨hx, hb, hml, hown, hts⟩ (c_X0_seek_o zo l D cy L0 fw14 a0 x_12 lx_12 ux_12 x_14 lx_14 ux_14 m_a0 o_a0 hg g p0 rbf O ocf hk m0 m1 (by omega) (by omega) _) (cwV 2 hts (gT (inV (mr29 _ (List.mem_of_getElem? (i := 7) rfl)) (mr29 _ (List.mem_of_getElem? (i := 8) rfl)) (mr29 _ (List.mem_of_getElem? (i := 9) rfl)) (mr2 _ (List.mem_of_getElem? (i := 9) rfl)) (mr29 _ (List.mem_of_getElem? (i := 10) rfl)))) rfl rfl rfl (by decide +kernel) ⟨Nat.le_of_ble_eq_true rfl, Nat.le_of_ble_eq_true rfl⟩) (Wd.preV zo hA hZ hw hK m_a0 o_a0 rfl) rfl rfl hl.1 rfl (lv_room (Nat.le_of_ble_eq_true rfl)) dX9_countMet_72 ⟨Nat.le_of_ble_eq_true rfl, Nat.le_of_ble_eq_true rfl⟩) (fun x_15 L1 f_16 H locs lx_15 ux_15 ex_15 hw => ?_)
            obtain ⟨rfl, hg, hX, ex_15⟩ := ex_15
            have hE := hE.trans hX
            have o_a0 := hX.1.1.1 _ _ o_a0
            have o_a1 := hX.1.1.1 _ _ o_a1
            have s72 : Sk (Oc g p0 O) tT (tK + 1) _ _ := ex_15.1.arg (by omega) (by omega)
            have d72 := ex_15.2
            have g72 := s72.rg pko
            clear ex_15
            refine lv_istore (lv' := [(6, .int (iI x_15)), (5, .int (iI x_11)), (0, .ref a0), (1, .ref a1), (3, .int (iI x3)), (4, .int (iI x4)), (7, .int (iI y7_14))]) hx hb dX9_countMet_75 hl (by decide) rfl (fun ls hl => ?_)
            obtain ⟨x_17, lx_17, ux_17, hx_17, ex_17⟩ := q_inc y7_14 (1)
            try (replace ex_17 : x_17 = y7_14 + (1) := by omega)
            refine lv_iinc (v := iI x_17) (lv' := [(7, .int (iI x_17)), (6, .int (iI x_15)), (5, .int (iI x_11)), (0, .ref a0), (1, .ref a1), (3, .int (iI x3)), (4, .int (iI x4))]) hx hb dX9_countMet_77 hl (k := 6) rfl hx_17 (by decide) rfl (fun ls hl => ?_)
            refine lv_goto (tgt := 14) hx hb dX9_countMet_80 (by decide) ?_
            exact ih14 x_11 lx_11 ux_11 x_15 lx_15 ux_15 x_17 lx_17 ux_17 L0 f_16 hg hE o_a0 o_a1 (by omega) (by omega) (by omega) (by omega) (by omega) (by omega) (by first | exact CMA.start s6 (fun t k z => (pko t k z).1) (by omega) (by omega) | exact cm.step (by omega) (by omega) s72 rfl f55 (by omega) (by omega) | fail "none") (by omega) _ _ _ hw (lv_sub hl [3, 4, 5, 6, 2, 1, 0] rfl)
  exact J14 ((((2147483647 : Int) - 0).toNat) + 1) 0 (by decide) (by decide) x_1 lx_1 ux_1 0 (by decide) (by decide) L0 f_2 hg hE o_a0 o_a1 (by omega) (by omega) (by omega) (by omega) (by omega) (by omega) (by first | exact CMA.start s6 (fun t k z => (pko t k z).1) (by omega) (by omega) | exact cm.step (by omega) (by omega) s72 rfl f55 (by omega) (by omega) | fail "none") (by omega) _ _ _ hw (lv_sub hl [3, 4, 6, 7, 2, 1, 0] rfl)
set_option maxHeartbeats 4000000 in
set_option maxRecDepth 100000 in
theorem c_X9_clashes_o {Z : Zt} (zo : Zok Z) (l : Launch) (D : va_G) (cy : Cy) (L0 : List Nat) (f0 : Nat → va_E) (a0 : Nat) (x1 : Int) (lx1 : -2147483648 ≤ x1) (ux1 : x1 ≤ 2147483647) (x2 : Int) (lx2 : -2147483648 ≤ x2) (ux2 : x2 ≤ 2147483647) (x3 : Int) (lx3 : -2147483648 ≤ x3) (ux3 : x3 ≤ 2147483647) (x4 : Int) (lx4 : -2147483648 ≤ x4) (ux4 : x4 ≤ 2147483647) (m_a0 : a0 ∈ L0) (o_a0 : Ob f0 a0 7) (hg : GI cy L0 f0) (rq : Int → Nat) (g : Int → Int) (mm : Int) (sx : SX f0 a0 rq g mm) (Os : Int → Int → Int) (ocs : OCs f0 rq g mm Os) (mb : ∀ i : Int, 0 ≤ i → i < mm → 0 ≤ g (44 * i + 1) ∧ g (44 * i + 1) ≤ 1439) (ml : ∀ i : Int, 0 ≤ i → i < mm → 1 ≤ g (44 * i + 2) ∧ g (44 * i + 2) ≤ 4320) : Ci Z l yX9_clashes (Cond.code yX9_clashes cX9_clashes 9 (some .int) :: TB) ({ frames := 6, cells := 0, slots := 0, locals := 149 } : Room) 0 0 D (tq cy) [.ref a0, .int (iI x1), .int (iI x2), .int (iI x3), .int (iI x4)] L0 f0 (fun (r : Int) (L1 : List Nat) (f1 : Nat → va_E) => L0 = L1 ∧ GI cy L0 f1 ∧ Eh cy f0 f1 ∧ ((r = -1 ∧ ¬ ((0 ≤ x1 ∧ x1 < mm ∧ 0 ≤ x2 ∧ x2 < mm ∧ x1 ≠ x2) ∧ (0 ≤ x3 ∧ x3 ≤ x4 ∧ x4 ≤ 36524 ∧ x4 - x3 < 400))) ∨ (((0 ≤ x1 ∧ x1 < mm ∧ 0 ≤ x2 ∧ x2 < mm ∧ x1 ≠ x2) ∧ (0 ≤ x3 ∧ x3 ≤ x4 ∧ x4 ≤ 36524 ∧ x4 - x3 < 400)) ∧ CLA (Oc g (44 * x1) (Os x1)) (Oc g (44 * x2) (Os x2)) (g (44 * x1 + 2)) (g (44 * x2 + 2)) (1440 * x3) (1440 * x4 + 1439) r))) := by
  refine Ci.enter (cc := cX9_clashes) (n := 9) rfl (plainFor_of_name (by decide)) (Nat.le_of_ble_eq_true rfl) ?_
  intro p e s m below meth c ls A hx hb hr hts hown hlocks hnm hml hK hA hAe hw hZ hl
  have hown : s.vm.findClass RX9 = some m.cls := hown
  have hl : lv_has ls 9 [(0, .ref a0), (1, .int (iI x1)), (2, .int (iI x2)), (3, .int (iI x3)), (4, .int (iI x4))] := hl
  have hN : ZN s := (zo.2.2.2.2 _ _ _ hZ).2
  have hE : Eh cy f0 f0 := Eh.refl cy f0
  refine lv_aload_n hx hb dX9_clashes_0 rfl (lv_at hl 0 rfl) ?_
  refine lv_iload_n hx hb dX9_clashes_1 rfl (lv_at hl 1 rfl) ?_
  refine lv_iload_n hx hb dX9_clashes_2 rfl (lv_at hl 2 rfl) ?_
  refine q_call_i hA hK hw (va_runV (As := [.int (iI x1), .int (iI x2)]) (rest := []) ⟨hx, hb, hml, hown, hts⟩ (c_X9_areTwo_f zo l D cy L0 f0 a0 x1 lx1 ux1 x2 lx2 ux2 m_a0 o_a0 hg rq g mm sx _) (cwV 2 hts (gT (inV (mr34 _ (List.mem_of_getElem? (i := 22) rfl)) (mr34 _ (List.mem_of_getElem? (i := 23) rfl)) (mr35 _ (List.mem_of_getElem? (i := 0) rfl)) (mr1 _ (List.mem_of_getElem? (i := 2) rfl)) (mr35 _ (List.mem_of_getElem? (i := 1) rfl)))) rfl rfl rfl (by decide +kernel) ⟨Nat.le_of_ble_eq_true rfl, Nat.le_of_ble_eq_true rfl⟩) (Wd.preV zo hA hZ hw hK m_a0 o_a0 rfl) rfl rfl hl.1 rfl (lv_room (Nat.le_of_ble_eq_true rfl)) dX9_clashes_3 ⟨Nat.le_of_ble_eq_true rfl, Nat.le_of_ble_eq_true rfl⟩) (fun x_1 L1 f1 H locs lx_1 ux_1 ex_1 hw => ?_)
  obtain ⟨rfl, rfl, ex_1⟩ := ex_1
  refine q_if_eq (tgt := 21) hx hb dX9_clashes_6 (by decide) ⟨lx_1, ux_1⟩ (fun c6 => ?_) (fun c6 => ?_)
  · refine q_iconst hx hb dX9_clashes_21 ?_
    exact q_ret_i hx hb hr hlocks hK hAe hw ⟨by decide, by decide⟩ (Nat.le_of_ble_eq_true rfl) (Nat.le_of_ble_eq_true rfl) dX9_clashes_22 (by exact ⟨rfl, hg, hE, Or.inl ⟨rfl, by omega⟩⟩)
  · refine lv_iload_n hx hb dX9_clashes_9 rfl (lv_at hl 3 rfl) ?_
    refine lv_iload hx hb dX9_clashes_10 (lv_at hl 4 rfl) ?_
    refine q_sipush hx hb dX9_clashes_12 rfl ?_
    refine q_call_i hA hK hw (va_runS (As := [.int (iI x3), .int (iI x4), .int (iI 400)]) (rest := []) ⟨hx, hb, hml, hown, hts⟩ (c_X9_areDays_f zo l D cy L0 f0 x3 lx3 ux3 x4 lx4 ux4 400 (by decide) (by decide) _) (va_cwS 3 hts (gT (inS (mr25 _ (List.mem_of_getElem? (i := 13) rfl)) (mr25 _ (List.mem_of_getElem? (i := 14) rfl)) (mr1 _ (List.mem_of_getElem? (i := 2) rfl)) (mr25 _ (List.mem_of_getElem? (i := 15) rfl)))) rfl rfl rfl (by decide +kernel) ⟨Nat.le_of_ble_eq_true rfl, Nat.le_of_ble_eq_true rfl⟩) (Wd.preS zo hA hZ hw hK) rfl rfl hl.1 rfl (lv_room (Nat.le_of_ble_eq_true rfl)) dX9_clashes_15 ⟨Nat.le_of_ble_eq_true rfl, Nat.le_of_ble_eq_true rfl⟩) (fun x_2 L1 f1 H locs lx_2 ux_2 ex_2 hw => ?_)
    obtain ⟨rfl, rfl, ex_2⟩ := ex_2
    refine q_if_ne (tgt := 23) hx hb dX9_clashes_18 (by decide) ⟨lx_2, ux_2⟩ (fun c18 => ?_) (fun c18 => ?_)
    · refine lv_aload_n hx hb dX9_clashes_23 rfl (lv_at hl 0 rfl) ?_
      obtain ⟨r_3, er_3, m_r_3, o_r_3⟩ := (show ∃ r, fR f0 a0 2 = some r ∧ r ∈ L0 ∧ Ob f0 r 5 from hg.2.1 _ m_a0 7 2 o_a0)
      refine q_getr (ci := 7) (C := RX9) (T := TX9) (N := 4) hx hb hts (fun w h => List.mem_cons_of_mem _ (mfX90 w h)) hown hK hw m_a0 o_a0 rfl 2 (by decide) (hts _ (List.mem_cons_of_mem _ (mr1 _ (List.mem_of_getElem? (i := 20) rfl)))) (fun _ h => h) rfl er_3 dX9_clashes_24 ?_
      have s1 := sx.at er_3
      refine lv_iload_n hx hb dX9_clashes_27 rfl (lv_at hl 1 rfl) ?_
      refine q_call_r hA hK hw (va_runV (As := [.int (iI x1)]) (rest := []) ⟨hx, hb, hml, hown, hts⟩ (c_X7_at_f zo l D cy L0 f0 r_3 x1 lx1 ux1 m_r_3 o_r_3 hg (by omega) (by omega) _) (cwV 1 hts (gT (inV (mr24 _ (List.mem_of_getElem? (i := 8) rfl)) (mr24 _ (List.mem_of_getElem? (i := 9) rfl)) (mr24 _ (List.mem_of_getElem? (i := 10) rfl)) (mr1 _ (List.mem_of_getElem? (i := 19) rfl)) (mr24 _ (List.mem_of_getElem? (i := 11) rfl)))) rfl rfl rfl (by decide +kernel) ⟨Nat.le_of_ble_eq_true rfl, Nat.le_of_ble_eq_true rfl⟩) (Wd.preV zo hA hZ hw hK m_r_3 o_r_3 rfl) rfl rfl hl.1 rfl (lv_room (Nat.le_of_ble_eq_true rfl)) dX9_clashes_28 ⟨Nat.le_of_ble_eq_true rfl, Nat.le_of_ble_eq_true rfl⟩) (fun x_4 L1 f1 H locs ex_4 hw => ?_)
      obtain ⟨rfl, rfl, ex_4⟩ := ex_4
      obtain ⟨m_x_4, o_x_4, ex_4⟩ := ex_4
      have gx1 := s1.1.row ex_4 (by omega) (by omega)
      have rba := s1.1.rb ex_4 (by omega) (by omega) (by omega)
      have oca : OC f0 x_4 (Os x1) := by rw [gx1]; exact (ocs x1 ⟨by omega, by omega⟩).1
      refine lv_astore (lv' := [(5, .ref x_4), (0, .ref a0), (1, .int (iI x1)), (2, .int (iI x2)), (3, .int (iI x3)), (4, .int (iI x4))]) hx hb dX9_clashes_31 hl (by decide) rfl (fun ls hl => ?_)
      refine lv_aload_n hx hb dX9_clashes_33 rfl (lv_at hl 1 rfl) ?_
      refine q_getr (ci := 7) (C := RX9) (T := TX9) (N := 4) hx hb hts (fun w h => List.mem_cons_of_mem _ (mfX90 w h)) hown hK hw m_a0 o_a0 rfl 2 (by decide) (hts _ (List.mem_cons_of_mem _ (mr1 _ (List.mem_of_getElem? (i := 20) rfl)))) (fun _ h => h) rfl er_3 dX9_clashes_34 ?_
      have s1 := sx.at er_3
      refine lv_iload_n hx hb dX9_clashes_37 rfl (lv_at hl 3 rfl) ?_
      refine q_call_r hA hK hw (va_runV (As := [.int (iI x2)]) (rest := []) ⟨hx, hb, hml, hown, hts⟩ (c_X7_at_f zo l D cy L0 f0 r_3 x2 lx2 ux2 m_r_3 o_r_3 hg (by omega) (by omega) _) (cwV 1 hts (gT (inV (mr24 _ (List.mem_of_getElem? (i := 8) rfl)) (mr24 _ (List.mem_of_getElem? (i := 9) rfl)) (mr24 _ (List.mem_of_getElem? (i := 10) rfl)) (mr1 _ (List.mem_of_getElem? (i := 19) rfl)) (mr24 _ (List.mem_of_getElem? (i := 11) rfl)))) rfl rfl rfl (by decide +kernel) ⟨Nat.le_of_ble_eq_true rfl, Nat.le_of_ble_eq_true rfl⟩) (Wd.preV zo hA hZ hw hK m_r_3 o_r_3 rfl) rfl rfl hl.1 rfl (lv_room (Nat.le_of_ble_eq_true rfl)) dX9_clashes_38 ⟨Nat.le_of_ble_eq_true rfl, Nat.le_of_ble_eq_true rfl⟩) (fun x_5 L1 f1 H locs ex_5 hw => ?_)
      obtain ⟨rfl, rfl, ex_5⟩ := ex_5
      obtain ⟨m_x_5, o_x_5, ex_5⟩ := ex_5
      have gx2 := s1.1.row ex_5 (by omega) (by omega)
      have rbb := s1.1.rb ex_5 (by omega) (by omega) (by omega)
      have ocb : OC f0 x_5 (Os x2) := by rw [gx2]; exact (ocs x2 ⟨by omega, by omega⟩).1
      have pka := rba.pk (ocs x1 ⟨by omega, by omega⟩).2.2.1 (mb x1 (by omega) (by omega)).1 (mb x1 (by omega) (by omega)).2
      have pkb := rbb.pk (ocs x2 ⟨by omega, by omega⟩).2.2.1 (mb x2 (by omega) (by omega)).1 (mb x2 (by omega) (by omega)).2
      have ln1 := ml x1 (by omega) (by omega)
      have ln2 := ml x2 (by omega) (by omega)
      refine lv_astore (lv' := [(6, .ref x_5), (5, .ref x_4), (0, .ref a0), (1, .int (iI x1)), (2, .int (iI x2)), (3, .int (iI x3)), (4, .int (iI x4))]) hx hb dX9_clashes_41 hl (by decide) rfl (fun ls hl => ?_)
      refine lv_iload_n hx hb dX9_clashes_43 rfl (lv_at hl 5 rfl) ?_
      refine q_sipush hx hb dX9_clashes_44 rfl ?_
      first | refine q_imul hx hb dX9_clashes_47 ⟨by omega, by omega⟩ (fun x_6 lx_6 ux_6 ex_6 => ?_) | refine q_imulw hx hb dX9_clashes_47 (fun x_6 lx_6 ux_6 _ => ?_)
      refine lv_istore (lv' := [(7, .int (iI x_6)), (6, .ref x_5), (5, .ref x_4), (0, .ref a0), (1, .int (iI x1)), (2, .int (iI x2)), (3, .int (iI x3)), (4, .int (iI x4))]) hx hb dX9_clashes_48 hl (by decide) rfl (fun ls hl => ?_)
      refine lv_iload hx hb dX9_clashes_50 (lv_at hl 7 rfl) ?_
      refine q_sipush hx hb dX9_clashes_52 rfl ?_
      first | refine q_imul hx hb dX9_clashes_55 ⟨by omega, by omega⟩ (fun x_7 lx_7 ux_7 ex_7 => ?_) | refine q_imulw hx hb dX9_clashes_55 (fun x_7 lx_7 ux_7 _ => ?_)
      refine q_sipush hx hb dX9_clashes_56 rfl ?_
      first | refine q_iadd hx hb dX9_clashes_59 ⟨by omega, by omega⟩ (fun x_8 lx_8 ux_8 ex_8 => ?_) | refine q_iaddw hx hb dX9_clashes_59 (fun x_8 lx_8 ux_8 _ => ?_)
      refine q_iconst hx hb dX9_clashes_60 ?_
      first | refine q_isub hx hb dX9_clashes_61 ⟨by omega, by omega⟩ (fun x_9 lx_9 ux_9 ex_9 => ?_) | refine q_isubw hx hb dX9_clashes_61 (fun x_9 lx_9 ux_9 _ => ?_)
      refine lv_istore (lv' := [(8, .int (iI x_9)), (7, .int (iI x_6)), (6, .ref x_5), (5, .ref x_4), (0, .ref a0), (1, .int (iI x1)), (2, .int (iI x2)), (3, .int (iI x3)), (4, .int (iI x4))]) hx hb dX9_clashes_62 hl (by decide) rfl (fun ls hl => ?_)
      refine lv_aload hx hb dX9_clashes_64 (lv_at hl 3 rfl) ?_
      refine lv_aload hx hb dX9_clashes_66 (lv_at hl 2 rfl) ?_
      refine lv_iload hx hb dX9_clashes_68 (lv_at hl 1 rfl) ?_
      refine lv_iload hx hb dX9_clashes_70 (lv_at hl 0 rfl) ?_
      refine q_iconst hx hb dX9_clashes_72 ?_
      refine q_call_i hA hK hw (va_runS (As := [.ref x_4, .ref x_5, .int (iI x_6), .int (iI x_9), .int (iI 0)]) (rest := []) ⟨hx, hb, hml, hown, hts⟩ (c_X9_countMet_o zo l D cy L0 f0 x_4 x_5 x_6 lx_6 ux_6 x_9 lx_9 ux_9 0 (by decide) (by decide) m_x_4 o_x_4 m_x_5 o_x_5 hg g (44 * x1) rba (Os x1) oca (ocs x1 ⟨by omega, by omega⟩).2.2.1 (mb x1 (by omega) (by omega)).1 (mb x1 (by omega) (by omega)).2 (44 * x2) rbb (Os x2) ocb (ocs x2 ⟨by omega, by omega⟩).2.2.1 (mb x2 (by omega) (by omega)).1 (mb x2 (by omega) (by omega)).2 (ml x2 (by omega) (by omega)).1 (ml x2 (by omega) (by omega)).2 (by omega) (by omega) (by omega) (by omega) (by omega) (by omega) _) (va_cwS 5 hts (gT (inS (mr37 _ (List.mem_of_getElem? (i := 19) rfl)) (mr37 _ (List.mem_of_getElem? (i := 20) rfl)) (mr1 _ (List.mem_of_getElem? (i := 2) rfl)) (mr37 _ (List.mem_of_getElem? (i := 21) rfl)))) rfl rfl rfl (by decide +kernel) ⟨Nat.le_of_ble_eq_true rfl, Nat.le_of_ble_eq_true rfl⟩) (Wd.preS zo hA hZ hw hK) rfl rfl hl.1 rfl (lv_room (Nat.le_of_ble_eq_true rfl)) dX9_clashes_73 ⟨Nat.le_of_ble_eq_true rfl, Nat.le_of_ble_eq_true rfl⟩) (fun x_10 L1 f_11 H locs lx_10 ux_10 ex_10 hw => ?_)
      obtain ⟨rfl, hg, hX, ex_10⟩ := ex_10
      have hE := hE.trans hX
      have o_x_5 := hX.1.1.1 _ _ o_x_5
      have o_x_4 := hX.1.1.1 _ _ o_x_4
      have o_a0 := hX.1.1.1 _ _ o_a0
      have h73 := ex_10.1
      have b73 := ex_10.2
      clear ex_10
      have rba2 := rba.eh hX
      have rbb2 := rbb.eh hX
      have oca2 := oca.eh hX
      have ocb2 := ocb.eh hX
      refine lv_aload hx hb dX9_clashes_76 (lv_at hl 2 rfl) ?_
      refine lv_aload hx hb dX9_clashes_78 (lv_at hl 3 rfl) ?_
      refine lv_iload hx hb dX9_clashes_80 (lv_at hl 1 rfl) ?_
      refine lv_iload hx hb dX9_clashes_82 (lv_at hl 0 rfl) ?_
      refine q_iconst hx hb dX9_clashes_84 ?_
      refine q_call_i hA hK hw (va_runS (As := [.ref x_5, .ref x_4, .int (iI x_6), .int (iI x_9), .int (iI 1)]) (rest := [.int (iI x_10)]) ⟨hx, hb, hml, hown, hts⟩ (c_X9_countMet_o zo l D cy L0 f_11 x_5 x_4 x_6 lx_6 ux_6 x_9 lx_9 ux_9 1 (by decide) (by decide) m_x_5 o_x_5 m_x_4 o_x_4 hg g (44 * x2) rbb2 (Os x2) ocb2 (ocs x2 ⟨by omega, by omega⟩).2.2.1 (mb x2 (by omega) (by omega)).1 (mb x2 (by omega) (by omega)).2 (44 * x1) rba2 (Os x1) oca2 (ocs x1 ⟨by omega, by omega⟩).2.2.1 (mb x1 (by omega) (by omega)).1 (mb x1 (by omega) (by omega)).2 (ml x1 (by omega) (by omega)).1 (ml x1 (by omega) (by omega)).2 (by omega) (by omega) (by omega) (by omega) (by omega) (by omega) _) (va_cwS 5 hts (gT (inS (mr37 _ (List.mem_of_getElem? (i := 19) rfl)) (mr37 _ (List.mem_of_getElem? (i := 20) rfl)) (mr1 _ (List.mem_of_getElem? (i := 2) rfl)) (mr37 _ (List.mem_of_getElem? (i := 21) rfl)))) rfl rfl rfl (by decide +kernel) ⟨Nat.le_of_ble_eq_true rfl, Nat.le_of_ble_eq_true rfl⟩) (Wd.preS zo hA hZ hw hK) rfl rfl hl.1 rfl (lv_room (Nat.le_of_ble_eq_true rfl)) dX9_clashes_85 ⟨Nat.le_of_ble_eq_true rfl, Nat.le_of_ble_eq_true rfl⟩) (fun x_12 L1 f_13 H locs lx_12 ux_12 ex_12 hw => ?_)
      obtain ⟨rfl, hg, hX, ex_12⟩ := ex_12
      have hE := hE.trans hX
      have o_x_5 := hX.1.1.1 _ _ o_x_5
      have o_x_4 := hX.1.1.1 _ _ o_x_4
      have o_a0 := hX.1.1.1 _ _ o_a0
      have cla := cla_of h73 ex_12.1 (fun t k z => ⟨(pka t k z).1, (pka t k z).2.1⟩) (fun t k z => ⟨(pkb t k z).1, (pkb t k z).2.1⟩) ln1.1 ln2.1
      have clb := cla.b (fun t k z => ⟨(pka t k z).1, (pka t k z).2.1⟩) (fun t k z => ⟨(pkb t k z).1, (pkb t k z).2.1⟩)
      have b85 := ex_12.2
      clear ex_12
      first | refine q_iadd hx hb dX9_clashes_88 ⟨by omega, by omega⟩ (fun x_14 lx_14 ux_14 ex_14 => ?_) | refine q_iaddw hx hb dX9_clashes_88 (fun x_14 lx_14 ux_14 _ => ?_)
      exact q_ret_i hx hb hr hlocks hK hAe hw ⟨lx_14, ux_14⟩ (Nat.le_of_ble_eq_true rfl) (Nat.le_of_ble_eq_true rfl) dX9_clashes_89 (by exact ⟨rfl, hg, hE, Or.inr ⟨⟨by omega, by omega⟩, cla.to (by omega) (by omega) (by omega)⟩⟩)
    · refine q_iconst hx hb dX9_clashes_21 ?_
      exact q_ret_i hx hb hr hlocks hK hAe hw ⟨by decide, by decide⟩ (Nat.le_of_ble_eq_true rfl) (Nat.le_of_ble_eq_true rfl) dX9_clashes_22 (by exact ⟨rfl, hg, hE, Or.inl ⟨rfl, by omega⟩⟩)
