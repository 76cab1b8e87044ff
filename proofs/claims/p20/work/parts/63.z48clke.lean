set_option maxHeartbeats 4000000 in
set_option maxRecDepth 100000 in
theorem c_X0_meet_o {Z : Zt} (zo : Zok Z) (l : Launch) (D : va_G) (cy : Cy) (L0 : List Nat) (f0 : Nat → va_E) (a0 : Nat) (x1 : Int) (lx1 : -2147483648 ≤ x1) (ux1 : x1 ≤ 2147483647) (x2 : Int) (lx2 : -2147483648 ≤ x2) (ux2 : x2 ≤ 2147483647) (x3 : Int) (lx3 : -2147483648 ≤ x3) (ux3 : x3 ≤ 2147483647) (m_a0 : a0 ∈ L0) (o_a0 : Ob f0 a0 0) (hg : GI cy L0 f0) (g : Int → Int) (p0 : Int) (rb : RB f0 a0 g p0) (O : Int → Int) (oc : OC f0 a0 O) (hk : OKk g p0 O) (m0 : 0 ≤ g (p0 + 1)) (m1 : g (p0 + 1) ≤ 1439) (q0 : 1 ≤ g (p0 + 2)) (q1 : g (p0 + 2) ≤ 4320) (u0 : 0 ≤ x1) (u1 : x1 ≤ 52595999) (v0 : 1 ≤ x2) (v1 : x2 ≤ 4320) (w0 : 0 ≤ x3) (w1 : x3 ≤ 52595999) : Ci Z l yX0_meet (Cond.code yX0_meet cX0_meet 4 (some .int) :: TB) ({ frames := 5, cells := 0, slots := 0, locals := 117 } : Room) 0 0 D (tq cy) [.ref a0, .int (iI x1), .int (iI x2), .int (iI x3)] L0 f0 (fun (r : Int) (L1 : List Nat) (f1 : Nat → va_E) => L0 = L1 ∧ GI cy L0 f1 ∧ Eh cy f0 f1 ∧ (Mn (CL (Oc g p0 O) (g (p0 + 2)) x1 x2 x3) r)) := by
  refine Ci.enter (cc := cX0_meet) (n := 4) rfl (plainFor_of_name (by decide)) (Nat.le_of_ble_eq_true rfl) ?_
  intro p e s m below meth c ls A hx hb hr hts hown hlocks hnm hml hK hA hAe hw hZ hl
  have hown : s.vm.findClass RX0 = some m.cls := hown
  have hl : lv_has ls 4 [(0, .ref a0), (1, .int (iI x1)), (2, .int (iI x2)), (3, .int (iI x3))] := hl
  have hN : ZN s := (zo.2.2.2.2 _ _ _ hZ).2
  have hE : Eh cy f0 f0 := Eh.refl cy f0
  have pko := rb.pk hk m0 m1
  refine lv_iload_n hx hb dX0_meet_0 rfl (lv_at hl 1 rfl) ?_
  refine lv_iload_n hx hb dX0_meet_1 rfl (lv_at hl 3 rfl) ?_
  have J30 : ∀ (L : List Nat) (fw30 : Nat → va_E) (hg : GI cy L0 fw30) (hE : Eh cy f0 fw30) (o_a0 : Ob fw30 a0 0) (nm : NM (Oc g p0 O) (g (p0 + 2)) x1 x3) (H : Heap) (locs : List Loc) (ls : Array Slot) (hw : Wd D A s.heap L0 fw30 H locs) (hl : lv_has ls 4 [(0, .ref a0), (1, .int (iI x1)), (2, .int (iI x2)), (3, .int (iI x3))]), W p l e ({ frames := 5, cells := 0, slots := 0, locals := 117 } : Room) s m ([.ref a0, .int (iI x1), .int (iI x2), .int (iI x3)] : List Value).toArray below meth c H locs (0) (0) (MQ below (Qi D (tq cy) L0 f0 s.heap.size (fun (r : Int) (L1 : List Nat) (f1 : Nat → va_E) => L0 = L1 ∧ GI cy L0 f1 ∧ Eh cy f0 f1 ∧ (Mn (CL (Oc g p0 O) (g (p0 + 2)) x1 x2 x3) r))) ([.ref a0, .int (iI x1), .int (iI x2), .int (iI x3)] : List Value).toArray s 0 0 A) (F0 m 30 ls []) := by
    intro L fw30 hg hE o_a0 nm H locs ls hw hl
    have rbf := rb.eh hE
    have ocf := oc.eh hE
    refine lv_aload_n hx hb dX0_meet_30 rfl (lv_at hl 0 rfl) ?_
    refine lv_iload_n hx hb dX0_meet_31 rfl (lv_at hl 1 rfl) ?_
    refine q_iconst hx hb dX0_meet_32 ?_
    first | refine q_iadd hx hb dX0_meet_33 ⟨by omega, by omega⟩ (fun x_1 lx_1 ux_1 ex_1 => ?_) | refine q_iaddw hx hb dX0_meet_33 (fun x_1 lx_1 ux_1 _ => ?_)
    refine lv_iload_n hx hb dX0_meet_34 rfl (lv_at hl 3 rfl) ?_
    refine q_max hx hb (hml.trans hl.1.symm) hown (hts _ (List.mem_cons_of_mem _ (mr25 _ (List.mem_of_getElem? (i := 20) rfl)))) (hts _ (List.mem_cons_of_mem _ (mr13 _ (List.mem_of_getElem? (i := 0) rfl)))) (hts _ (List.mem_cons_of_mem _ (mr6 _ (List.mem_of_getElem? (i := 14) rfl)))) (hts _ (List.mem_cons_of_mem _ (mr13 _ (List.mem_of_getElem? (i := 1) rfl)))) (Nat.le_of_ble_eq_true rfl) (Nat.le_of_ble_eq_true rfl) (Nat.le_of_ble_eq_true rfl) (Nat.le_of_ble_eq_true rfl) ⟨lx_1, ux_1⟩ ⟨lx3, ux3⟩ dX0_meet_35 (fun x_2 lx_2 ux_2 ex_2 => ?_)
    refine q_iconst hx hb dX0_meet_38 ?_
    refine q_call_i hA hK hw (va_runV (As := [.int (iI x_2), .int (iI 0)]) (rest := []) ⟨hx, hb, hml, hown, hts⟩ (c_X0_seek_o zo l D cy L0 fw30 a0 x_2 lx_2 ux_2 0 (by decide) (by decide) m_a0 o_a0 hg g p0 rbf O ocf hk m0 m1 (by omega) (by omega) _) (cwV 2 hts (gT (inV (mr35 _ (List.mem_of_getElem? (i := 14) rfl)) (mr29 _ (List.mem_of_getElem? (i := 8) rfl)) (mr29 _ (List.mem_of_getElem? (i := 9) rfl)) (mr2 _ (List.mem_of_getElem? (i := 9) rfl)) (mr29 _ (List.mem_of_getElem? (i := 10) rfl)))) rfl rfl rfl (by decide +kernel) ⟨Nat.le_of_ble_eq_true rfl, Nat.le_of_ble_eq_true rfl⟩) (Wd.preV zo hA hZ hw hK m_a0 o_a0 rfl) rfl rfl hl.1 rfl (lv_room (Nat.le_of_ble_eq_true rfl)) dX0_meet_39 ⟨Nat.le_of_ble_eq_true rfl, Nat.le_of_ble_eq_true rfl⟩) (fun x_3 L1 f_4 H locs lx_3 ux_3 ex_3 hw => ?_)
    obtain ⟨rfl, hg, hX, ex_3⟩ := ex_3
    have hE := hE.trans hX
    have o_a0 := hX.1.1.1 _ _ o_a0
    have h39 : Sk (Oc g p0 O) (max (x1 + 1) x3) 0 _ _ := ex_3.1.arg (by omega) (by omega)
    have d39 := ex_3.2
    have g39 := h39.rg pko
    clear ex_3
    refine q_if_eq (tgt := 60) hx hb dX0_meet_42 (by decide) ⟨lx_3, ux_3⟩ (fun c42 => ?_) (fun c42 => ?_)
    · refine q_ldc (n := 2147483647) hx hb hown (hts _ (List.mem_cons_of_mem _ (mr29 _ (List.mem_of_getElem? (i := 12) rfl)))) rfl dX0_meet_60 ?_
      exact q_ret_i hx hb hr hlocks hK hAe hw ⟨by decide, by decide⟩ (Nat.le_of_ble_eq_true rfl) (Nat.le_of_ble_eq_true rfl) dX0_meet_62 (by exact ⟨rfl, hg, hE, mt_3 nm h39 rfl (by omega) (fun t k z => ⟨(pko t k z).1, (pko t k z).2.2.2⟩)⟩)
    · refine lv_aload_n hx hb dX0_meet_45 rfl (lv_at hl 0 rfl) ?_
      refine q_geti (ci := 0) (C := RX0) (T := TX0) (N := 15) hx hb hts (fun w h => List.mem_cons_of_mem _ (mfX00 w h)) hown hK hw m_a0 o_a0 rfl 13 (by decide) (hts _ (List.mem_cons_of_mem _ (mr29 _ (List.mem_of_getElem? (i := 13) rfl)))) (fun _ h => h) rfl dX0_meet_46 (fun x_5 lx_5 ux_5 ex_5 => ?_)
      refine lv_iload_n hx hb dX0_meet_49 rfl (lv_at hl 1 rfl) ?_
      refine lv_iload_n hx hb dX0_meet_50 rfl (lv_at hl 2 rfl) ?_
      first | refine q_iadd hx hb dX0_meet_51 ⟨by omega, by omega⟩ (fun x_6 lx_6 ux_6 ex_6 => ?_) | refine q_iaddw hx hb dX0_meet_51 (fun x_6 lx_6 ux_6 _ => ?_)
      refine q_icmp_ge (tgt := 60) hx hb dX0_meet_52 (by decide) ⟨lx_5, ux_5⟩ ⟨lx_6, ux_6⟩ (fun c52 => ?_) (fun c52 => ?_)
      · refine q_ldc (n := 2147483647) hx hb hown (hts _ (List.mem_cons_of_mem _ (mr29 _ (List.mem_of_getElem? (i := 12) rfl)))) rfl dX0_meet_60 ?_
        exact q_ret_i hx hb hr hlocks hK hAe hw ⟨by decide, by decide⟩ (Nat.le_of_ble_eq_true rfl) (Nat.le_of_ble_eq_true rfl) dX0_meet_62 (by exact ⟨rfl, hg, hE, mt_3 nm h39 rfl (by omega) (fun t k z => ⟨(pko t k z).1, (pko t k z).2.2.2⟩)⟩)
      · refine lv_aload_n hx hb dX0_meet_55 rfl (lv_at hl 0 rfl) ?_
        refine q_geti (ci := 0) (C := RX0) (T := TX0) (N := 15) hx hb hts (fun w h => List.mem_cons_of_mem _ (mfX00 w h)) hown hK hw m_a0 o_a0 rfl 13 (by decide) (hts _ (List.mem_cons_of_mem _ (mr29 _ (List.mem_of_getElem? (i := 13) rfl)))) (fun _ h => h) rfl dX0_meet_56 (fun x_7 lx_7 ux_7 ex_7 => ?_)
        exact q_ret_i hx hb hr hlocks hK hAe hw ⟨lx_7, ux_7⟩ (Nat.le_of_ble_eq_true rfl) (Nat.le_of_ble_eq_true rfl) dX0_meet_59 (by exact ⟨rfl, hg, hE, (mt_2 nm h39 rfl (by omega) (by omega) (by omega) (fun t k z => ⟨(pko t k z).1, (pko t k z).2.2.2⟩)).to (by omega)⟩)
  refine q_icmp_lt (tgt := 30) hx hb dX0_meet_2 (by decide) ⟨lx1, ux1⟩ ⟨lx3, ux3⟩ (fun c2 => ?_) (fun c2 => ?_)
  · exact J30 L0 f0 hg hE o_a0 (by first | exact nm_lt (by omega) | exact nm_sa h9 rfl (by omega) (fun t k z => (pko t k z).1) | fail "none") _ _ _ hw (lv_sub hl [0, 1, 2, 3] rfl)
  · refine lv_aload_n hx hb dX0_meet_5 rfl (lv_at hl 0 rfl) ?_
    refine lv_iload_n hx hb dX0_meet_6 rfl (lv_at hl 1 rfl) ?_
    refine q_iconst hx hb dX0_meet_7 ?_
    first | refine q_iadd hx hb dX0_meet_8 ⟨by omega, by omega⟩ (fun x_8 lx_8 ux_8 ex_8 => ?_) | refine q_iaddw hx hb dX0_meet_8 (fun x_8 lx_8 ux_8 _ => ?_)
    refine q_call_i hA hK hw (va_runV (As := [.int (iI x_8)]) (rest := []) ⟨hx, hb, hml, hown, hts⟩ (c_X0_seekAhead_o zo l D cy L0 f0 a0 x_8 lx_8 ux_8 m_a0 o_a0 hg g p0 rb O oc hk m0 m1 (by omega) (by omega) _) (cwV 1 hts (gT (inV (mr35 _ (List.mem_of_getElem? (i := 13) rfl)) (mr30 _ (List.mem_of_getElem? (i := 20) rfl)) (mr30 _ (List.mem_of_getElem? (i := 21) rfl)) (mr2 _ (List.mem_of_getElem? (i := 9) rfl)) (mr30 _ (List.mem_of_getElem? (i := 22) rfl)))) rfl rfl rfl (by decide +kernel) ⟨Nat.le_of_ble_eq_true rfl, Nat.le_of_ble_eq_true rfl⟩) (Wd.preV zo hA hZ hw hK m_a0 o_a0 rfl) rfl rfl hl.1 rfl (lv_room (Nat.le_of_ble_eq_true rfl)) dX0_meet_9 ⟨Nat.le_of_ble_eq_true rfl, Nat.le_of_ble_eq_true rfl⟩) (fun x_9 L1 f_10 H locs lx_9 ux_9 ex_9 hw => ?_)
    obtain ⟨rfl, hg, hX, ex_9⟩ := ex_9
    have hE := hE.trans hX
    have o_a0 := hX.1.1.1 _ _ o_a0
    have h9 : Sa (Oc g p0 O) (x1 + 1) _ _ := ex_9.1.arg (by omega)
    have d9 := ex_9.2
    have g9 := h9.rg pko
    have len9 := (rb.eh hX).1.1.2.2.1
    clear ex_9
    refine q_if_eq (tgt := 30) hx hb dX0_meet_12 (by decide) ⟨lx_9, ux_9⟩ (fun c12 => ?_) (fun c12 => ?_)
    · exact J30 L0 f_10 hg hE o_a0 (by first | exact nm_lt (by omega) | exact nm_sa h9 rfl (by omega) (fun t k z => (pko t k z).1) | fail "none") _ _ _ hw (lv_sub hl [0, 1, 2, 3] rfl)
    · refine lv_aload_n hx hb dX0_meet_15 rfl (lv_at hl 0 rfl) ?_
      refine q_geti (ci := 0) (C := RX0) (T := TX0) (N := 15) hx hb hts (fun w h => List.mem_cons_of_mem _ (mfX00 w h)) hown hK hw m_a0 o_a0 rfl 13 (by decide) (hts _ (List.mem_cons_of_mem _ (mr29 _ (List.mem_of_getElem? (i := 13) rfl)))) (fun _ h => h) rfl dX0_meet_16 (fun x_11 lx_11 ux_11 ex_11 => ?_)
      refine lv_aload_n hx hb dX0_meet_19 rfl (lv_at hl 0 rfl) ?_
      refine q_geti (ci := 0) (C := RX0) (T := TX0) (N := 15) hx hb hts (fun w h => List.mem_cons_of_mem _ (mfX00 w h)) hown hK hw m_a0 o_a0 rfl 2 (by decide) (hts _ (List.mem_cons_of_mem _ (mr35 _ (List.mem_of_getElem? (i := 12) rfl)))) (fun _ h => h) rfl dX0_meet_20 (fun x_12 lx_12 ux_12 ex_12 => ?_)
      first | refine q_iadd hx hb dX0_meet_23 ⟨by omega, by omega⟩ (fun x_13 lx_13 ux_13 ex_13 => ?_) | refine q_iaddw hx hb dX0_meet_23 (fun x_13 lx_13 ux_13 _ => ?_)
      refine lv_iload_n hx hb dX0_meet_24 rfl (lv_at hl 1 rfl) ?_
      refine q_icmp_le (tgt := 30) hx hb dX0_meet_25 (by decide) ⟨lx_13, ux_13⟩ ⟨lx1, ux1⟩ (fun c25 => ?_) (fun c25 => ?_)
      · exact J30 L0 f_10 hg hE o_a0 (by first | exact nm_lt (by omega) | exact nm_sa h9 rfl (by omega) (fun t k z => (pko t k z).1) | fail "none") _ _ _ hw (lv_sub hl [0, 1, 2, 3] rfl)
      · refine lv_iload_n hx hb dX0_meet_28 rfl (lv_at hl 1 rfl) ?_
        exact q_ret_i hx hb hr hlocks hK hAe hw ⟨lx1, ux1⟩ (Nat.le_of_ble_eq_true rfl) (Nat.le_of_ble_eq_true rfl) dX0_meet_29 (by exact ⟨rfl, hg, hE, mt_1 h9 rfl (by omega) (by omega) (by omega) (by omega) (by omega)⟩)
set_option maxHeartbeats 4000000 in
set_option maxRecDepth 100000 in
theorem c_X9_movedClash_o {Z : Zt} (zo : Zok Z) (l : Launch) (D : va_G) (cy : Cy) (L0 : List Nat) (f0 : Nat → va_E) (a0 : Nat) (a1 : Nat) (x2 : Int) (lx2 : -2147483648 ≤ x2) (ux2 : x2 ≤ 2147483647) (x3 : Int) (lx3 : -2147483648 ≤ x3) (ux3 : x3 ≤ 2147483647) (m_a0 : a0 ∈ L0) (o_a0 : Ob f0 a0 0) (m_a1 : a1 ∈ L0) (o_a1 : Ob f0 a1 0) (hg : GI cy L0 f0) (g : Int → Int) (p0 : Int) (rb : RB f0 a0 g p0) (O : Int → Int) (oc : OC f0 a0 O) (hk : OKk g p0 O) (m0 : 0 ≤ g (p0 + 1)) (m1 : g (p0 + 1) ≤ 1439) (p1 : Int) (rb1 : RB f0 a1 g p1) (O1 : Int → Int) (oc1 : OC f0 a1 O1) (hk1 : OKk g p1 O1) (n0 : 0 ≤ g (p1 + 1)) (n1 : g (p1 + 1) ≤ 1439) (q0 : 1 ≤ g (p0 + 2)) (q1 : g (p0 + 2) ≤ 4320) (k0 : 1 ≤ g (p1 + 2)) (k1 : g (p1 + 2) ≤ 4320) (w0 : 0 ≤ x2) (w1 : x2 ≤ 52595999) : Ci Z l yX9_movedClash (Cond.code yX9_movedClash cX9_movedClash 6 (some .int) :: TB) ({ frames := 6, cells := 0, slots := 0, locals := 140 } : Room) 0 0 D (tq cy) [.ref a0, .ref a1, .int (iI x2), .int (iI x3)] L0 f0 (fun (r : Int) (L1 : List Nat) (f1 : Nat → va_E) => L0 = L1 ∧ GI cy L0 f1 ∧ Eh cy f0 f1 ∧ (Bw (CC (Oc g p0 O) (g (p0 + 2)) (Oc g p1 O1) (g (p1 + 2)) x2) (fun x => MC (aI f0 (TA f0 a0)) (fI f0 a0 10) (Oc g p1 O1) (g (p1 + 2)) (g (p0 + 2)) x2 x ∨ MC (aI f0 (TA f0 a1)) (fI f0 a1 10) (Oc g p0 O) (g (p0 + 2)) (g (p1 + 2)) x2 x) x3 r)) := by
  refine Ci.enter (cc := cX9_movedClash) (n := 6) rfl (plainFor_of_name (by decide)) (Nat.le_of_ble_eq_true rfl) ?_
  intro p e s m below meth c ls A hx hb hr hts hown hlocks hnm hml hK hA hAe hw hZ hl
  have hown : s.vm.findClass RX9 = some m.cls := hown
  have hl : lv_has ls 6 [(0, .ref a0), (1, .ref a1), (2, .int (iI x2)), (3, .int (iI x3))] := hl
  have hN : ZN s := (zo.2.2.2.2 _ _ _ hZ).2
  have hE : Eh cy f0 f0 := Eh.refl cy f0
  have pko := rb.pk hk m0 m1
  have pk1 := rb1.pk hk1 n0 n1
  have od : OdR (aI f0 (KA f0 a0)) (aI f0 (TA f0 a0)) (fI f0 a0 10) O := oc
  have od1 : OdR (aI f0 (KA f0 a1)) (aI f0 (TA f0 a1)) (fI f0 a1 10) O1 := oc1
  have bb0 : 0 ≤ fI f0 a0 10 ∧ fI f0 a0 10 ≤ 16 := hg.1 _ m_a0 0 10 o_a0
  have bb1 : 0 ≤ fI f0 a1 10 ∧ fI f0 a1 10 ≤ 16 := hg.1 _ m_a1 0 10 o_a1
  have tb0 : ∀ i : Int, 0 ≤ i → i < fI f0 a0 10 → aI f0 (TA f0 a0) i ≤ 52595999 ∧ -1 ≤ aI f0 (TA f0 a0) i := fun i i0 i1 => by have w := od.at i0 i1 rfl; have v := (hk _ w.2.1).2.2.2; omega
  have tb1 : ∀ i : Int, 0 ≤ i → i < fI f0 a1 10 → aI f0 (TA f0 a1) i ≤ 52595999 ∧ -1 ≤ aI f0 (TA f0 a1) i := fun i i0 i1 => by have w := od1.at i0 i1 rfl; have v := (hk1 _ w.2.1).2.2.2; omega
  refine lv_iload_n hx hb dX9_movedClash_0 rfl (lv_at hl 3 rfl) ?_
  refine lv_istore (lv' := [(4, .int (iI x3)), (0, .ref a0), (1, .ref a1), (2, .int (iI x2)), (3, .int (iI x3))]) hx hb dX9_movedClash_1 hl (by decide) rfl (fun ls hl => ?_)
  refine q_iconst hx hb dX9_movedClash_3 ?_
  refine lv_istore (lv' := [(5, .int (iI 0)), (4, .int (iI x3)), (0, .ref a0), (1, .ref a1), (2, .int (iI x2)), (3, .int (iI x3))]) hx hb dX9_movedClash_4 hl (by decide) rfl (fun ls hl => ?_)
  have J6 : ∀ (n6 : Nat) (y4_6 : Int) (ly4_6 : -2147483648 ≤ y4_6) (uy4_6 : y4_6 ≤ 2147483647) (y5_6 : Int) (ly5_6 : -2147483648 ≤ y5_6) (uy5_6 : y5_6 ≤ 2147483647) (L : List Nat) (fw6 : Nat → va_E) (hg : GI cy L0 fw6) (hE : Eh cy f0 fw6) (o_a0 : Ob fw6 a0 0) (o_a1 : Ob fw6 a1 0) (i1 : 0 ≤ y5_6) (i2 : y5_6 ≤ fI f0 a0 10) (bw : Bw (CC (Oc g p0 O) (g (p0 + 2)) (Oc g p1 O1) (g (p1 + 2)) x2) (fun x => MC (aI f0 (TA f0 a0)) y5_6 (Oc g p1 O1) (g (p1 + 2)) (g (p0 + 2)) x2 x) x3 y4_6) (hn6 : ((2147483647 : Int) - y5_6).toNat < n6) (H : Heap) (locs : List Loc) (ls : Array Slot) (hw : Wd D A s.heap L0 fw6 H locs) (hl : lv_has ls 6 [(0, .ref a0), (1, .ref a1), (2, .int (iI x2)), (4, .int (iI y4_6)), (5, .int (iI y5_6))]), W p l e ({ frames := 6, cells := 0, slots := 0, locals := 140 } : Room) s m ([.ref a0, .ref a1, .int (iI x2), .int (iI x3)] : List Value).toArray below meth c H locs (0) (0) (MQ below (Qi D (tq cy) L0 f0 s.heap.size (fun (r : Int) (L1 : List Nat) (f1 : Nat → va_E) => L0 = L1 ∧ GI cy L0 f1 ∧ Eh cy f0 f1 ∧ (Bw (CC (Oc g p0 O) (g (p0 + 2)) (Oc g p1 O1) (g (p1 + 2)) x2) (fun x => MC (aI f0 (TA f0 a0)) (fI f0 a0 10) (Oc g p1 O1) (g (p1 + 2)) (g (p0 + 2)) x2 x ∨ MC (aI f0 (TA f0 a1)) (fI f0 a1 10) (Oc g p0 O) (g (p0 + 2)) (g (p1 + 2)) x2 x) x3 r))) ([.ref a0, .ref a1, .int (iI x2), .int (iI x3)] : List Value).toArray s 0 0 A) (F0 m 6 ls []) := by
    intro n6
    induction n6 with
    | zero => intro y4_6 ly4_6 uy4_6 y5_6 ly5_6 uy5_6 L fw6 hg hE o_a0 o_a1 i1 i2 bw hn6; exact absurd hn6 (Nat.not_lt_zero _)
    | succ n6 ih6 =>
      intro y4_6 ly4_6 uy4_6 y5_6 ly5_6 uy5_6 L fw6 hg hE o_a0 o_a1 i1 i2 bw hn6 H locs ls hw hl
      have rbf := rb.eh hE
      have ocf := oc.eh hE
      have rb1f := rb1.eh hE
      have oc1f := oc1.eh hE
      have KAa0 : KA fw6 a0 = KA f0 a0 := KA_W (hE.2.1 a0 11 (by decide) (by decide))
      have TAa0 : TA fw6 a0 = TA f0 a0 := TA_W (hE.2.1 a0 12 (by decide) (by decide))
      have n10a0 : fI fw6 a0 10 = fI f0 a0 10 := fI_W (hE.2.1 a0 10 (by decide) (by decide))
      have arr : ∀ (y : Nat) (j : Int), aI fw6 y j = aI f0 y j := hE.2.2.2.2
      refine lv_iload hx hb dX9_movedClash_6 (lv_at hl 4 rfl) ?_
      refine lv_aload_n hx hb dX9_movedClash_8 rfl (lv_at hl 0 rfl) ?_
      refine q_geti (ci := 0) (C := RX0) (T := TX0) (N := 15) hx hb hts (fun w h => List.mem_cons_of_mem _ (mfX00 w h)) hown hK hw m_a0 o_a0 rfl 10 (by decide) (hts _ (List.mem_cons_of_mem _ (mr35 _ (List.mem_of_getElem? (i := 5) rfl)))) (fun _ h => h) rfl dX9_movedClash_9 (fun x_1 lx_1 ux_1 ex_1 => ?_)
      have bx_1 : 0 ≤ x_1 ∧ x_1 ≤ 16 := by rw [ex_1]; exact hg.1 _ m_a0 0 10 o_a0
      refine q_icmp_ge (tgt := 55) hx hb dX9_movedClash_12 (by decide) ⟨ly5_6, uy5_6⟩ ⟨lx_1, ux_1⟩ (fun c12 => ?_) (fun c12 => ?_)
      · refine q_iconst hx hb dX9_movedClash_55 ?_
        refine lv_istore (lv' := [(5, .int (iI 0)), (0, .ref a0), (1, .ref a1), (2, .int (iI x2)), (4, .int (iI y4_6))]) hx hb dX9_movedClash_56 hl (by decide) rfl (fun ls hl => ?_)
        have J58 : ∀ (n58 : Nat) (y4_58 : Int) (ly4_58 : -2147483648 ≤ y4_58) (uy4_58 : y4_58 ≤ 2147483647) (y5_58 : Int) (ly5_58 : -2147483648 ≤ y5_58) (uy5_58 : y5_58 ≤ 2147483647) (L : List Nat) (fw58 : Nat → va_E) (hg : GI cy L0 fw58) (hE : Eh cy f0 fw58) (o_a0 : Ob fw58 a0 0) (o_a1 : Ob fw58 a1 0) (i1 : 0 ≤ y5_58) (i2 : y5_58 ≤ fI f0 a1 10) (bx : Bw (CC (Oc g p0 O) (g (p0 + 2)) (Oc g p1 O1) (g (p1 + 2)) x2) (fun x => MC (aI f0 (TA f0 a0)) (fI f0 a0 10) (Oc g p1 O1) (g (p1 + 2)) (g (p0 + 2)) x2 x ∨ MC (aI f0 (TA f0 a1)) y5_58 (Oc g p0 O) (g (p0 + 2)) (g (p1 + 2)) x2 x) x3 y4_58) (hn58 : ((2147483647 : Int) - y5_58).toNat < n58) (H : Heap) (locs : List Loc) (ls : Array Slot) (hw : Wd D A s.heap L0 fw58 H locs) (hl : lv_has ls 6 [(0, .ref a0), (1, .ref a1), (2, .int (iI x2)), (4, .int (iI y4_58)), (5, .int (iI y5_58))]), W p l e ({ frames := 6, cells := 0, slots := 0, locals := 140 } : Room) s m ([.ref a0, .ref a1, .int (iI x2), .int (iI x3)] : List Value).toArray below meth c H locs (0) (0) (MQ below (Qi D (tq cy) L0 f0 s.heap.size (fun (r : Int) (L1 : List Nat) (f1 : Nat → va_E) => L0 = L1 ∧ GI cy L0 f1 ∧ Eh cy f0 f1 ∧ (Bw (CC (Oc g p0 O) (g (p0 + 2)) (Oc g p1 O1) (g (p1 + 2)) x2) (fun x => MC (aI f0 (TA f0 a0)) (fI f0 a0 10) (Oc g p1 O1) (g (p1 + 2)) (g (p0 + 2)) x2 x ∨ MC (aI f0 (TA f0 a1)) (fI f0 a1 10) (Oc g p0 O) (g (p0 + 2)) (g (p1 + 2)) x2 x) x3 r))) ([.ref a0, .ref a1, .int (iI x2), .int (iI x3)] : List Value).toArray s 0 0 A) (F0 m 58 ls []) := by
          intro n58
          induction n58 with
          | zero => intro y4_58 ly4_58 uy4_58 y5_58 ly5_58 uy5_58 L fw58 hg hE o_a0 o_a1 i1 i2 bx hn58; exact absurd hn58 (Nat.not_lt_zero _)
          | succ n58 ih58 =>
            intro y4_58 ly4_58 uy4_58 y5_58 ly5_58 uy5_58 L fw58 hg hE o_a0 o_a1 i1 i2 bx hn58 H locs ls hw hl
            have rbf := rb.eh hE
            have ocf := oc.eh hE
            have rb1f := rb1.eh hE
            have oc1f := oc1.eh hE
            have KAa1 : KA fw58 a1 = KA f0 a1 := KA_W (hE.2.1 a1 11 (by decide) (by decide))
            have TAa1 : TA fw58 a1 = TA f0 a1 := TA_W (hE.2.1 a1 12 (by decide) (by decide))
            have n10a1 : fI fw58 a1 10 = fI f0 a1 10 := fI_W (hE.2.1 a1 10 (by decide) (by decide))
            have arr : ∀ (y : Nat) (j : Int), aI fw58 y j = aI f0 y j := hE.2.2.2.2
            refine lv_iload hx hb dX9_movedClash_58 (lv_at hl 4 rfl) ?_
            refine lv_aload_n hx hb dX9_movedClash_60 rfl (lv_at hl 1 rfl) ?_
            refine q_geti (ci := 0) (C := RX0) (T := TX0) (N := 15) hx hb hts (fun w h => List.mem_cons_of_mem _ (mfX00 w h)) hown hK hw m_a1 o_a1 rfl 10 (by decide) (hts _ (List.mem_cons_of_mem _ (mr35 _ (List.mem_of_getElem? (i := 5) rfl)))) (fun _ h => h) rfl dX9_movedClash_61 (fun x_2 lx_2 ux_2 ex_2 => ?_)
            have bx_2 : 0 ≤ x_2 ∧ x_2 ≤ 16 := by rw [ex_2]; exact hg.1 _ m_a1 0 10 o_a1
            refine q_icmp_ge (tgt := 107) hx hb dX9_movedClash_64 (by decide) ⟨ly5_58, uy5_58⟩ ⟨lx_2, ux_2⟩ (fun c64 => ?_) (fun c64 => ?_)
            · refine lv_iload hx hb dX9_movedClash_107 (lv_at hl 3 rfl) ?_
              exact q_ret_i hx hb hr hlocks hK hAe hw ⟨ly4_58, uy4_58⟩ (Nat.le_of_ble_eq_true rfl) (Nat.le_of_ble_eq_true rfl) dX9_movedClash_109 (by exact ⟨rfl, hg, hE, bx.cg (fun x z => z.imp id (fun z => mc_to z (by omega)))⟩)
            · refine lv_aload_n hx hb dX9_movedClash_67 rfl (lv_at hl 1 rfl) ?_
              obtain ⟨r_3, er_3, m_r_3, o_r_3⟩ := (show ∃ r, fR fw58 a1 12 = some r ∧ r ∈ L0 ∧ ArI fw58 r cy.2.1 16 from hg.2.1 _ m_a1 0 12 o_a1)
              refine q_getr (ci := 0) (C := RX0) (T := TX0) (N := 15) hx hb hts (fun w h => List.mem_cons_of_mem _ (mfX00 w h)) hown hK hw m_a1 o_a1 rfl 12 (by decide) (hts _ (List.mem_cons_of_mem _ (mr35 _ (List.mem_of_getElem? (i := 6) rfl)))) (fun _ h => h) rfl er_3 dX9_movedClash_68 ?_
              have k73 := TA_e er_3
              refine lv_iload hx hb dX9_movedClash_71 (lv_at hl 4 rfl) ?_
              refine q_iald hx hb hK hw m_r_3 1 o_r_3 rfl ⟨ly5_58, uy5_58⟩ (by omega) (by omega) dX9_movedClash_73 (fun x_4 lx_4 ux_4 ex_4 => ?_)
              have h73 : x_4 = aI f0 (TA f0 a1) y5_58 := ex_4.trans (by rw [k73, TAa1, arr])
              have t73 := tb1 y5_58 (by omega) (by omega)
              refine q_iconst hx hb dX9_movedClash_74 ?_
              have J101 : ∀ (z4_101 : Int) (lz4_101 : -2147483648 ≤ z4_101) (uz4_101 : z4_101 ≤ 2147483647) (L : List Nat) (fw101 : Nat → va_E) (hg : GI cy L0 fw101) (hE : Eh cy f0 fw101) (o_a0 : Ob fw101 a0 0) (o_a1 : Ob fw101 a1 0) (j1 : 0 ≤ y5_58) (j2 : y5_58 < fI f0 a1 10) (bx1 : Bw (CC (Oc g p0 O) (g (p0 + 2)) (Oc g p1 O1) (g (p1 + 2)) x2) (fun x => MC (aI f0 (TA f0 a0)) (fI f0 a0 10) (Oc g p1 O1) (g (p1 + 2)) (g (p0 + 2)) x2 x ∨ MC (aI f0 (TA f0 a1)) (y5_58 + 1) (Oc g p0 O) (g (p0 + 2)) (g (p1 + 2)) x2 x) x3 z4_101) (H : Heap) (locs : List Loc) (ls : Array Slot) (hw : Wd D A s.heap L0 fw101 H locs) (hl : lv_has ls 6 [(0, .ref a0), (1, .ref a1), (2, .int (iI x2)), (4, .int (iI z4_101)), (5, .int (iI y5_58))]), W p l e ({ frames := 6, cells := 0, slots := 0, locals := 140 } : Room) s m ([.ref a0, .ref a1, .int (iI x2), .int (iI x3)] : List Value).toArray below meth c H locs (0) (0) (MQ below (Qi D (tq cy) L0 f0 s.heap.size (fun (r : Int) (L1 : List Nat) (f1 : Nat → va_E) => L0 = L1 ∧ GI cy L0 f1 ∧ Eh cy f0 f1 ∧ (Bw (CC (Oc g p0 O) (g (p0 + 2)) (Oc g p1 O1) (g (p1 + 2)) x2) (fun x => MC (aI f0 (TA f0 a0)) (fI f0 a0 10) (Oc g p1 O1) (g (p1 + 2)) (g (p0 + 2)) x2 x ∨ MC (aI f0 (TA f0 a1)) (fI f0 a1 10) (Oc g p0 O) (g (p0 + 2)) (g (p1 + 2)) x2 x) x3 r))) ([.ref a0, .ref a1, .int (iI x2), .int (iI x3)] : List Value).toArray s 0 0 A) (F0 m 101 ls []) := by
                intro z4_101 lz4_101 uz4_101 L fw101 hg hE o_a0 o_a1 j1 j2 bx1 H locs ls hw hl
                obtain ⟨x_5, lx_5, ux_5, hx_5, ex_5⟩ := q_inc y5_58 (1)
                try (replace ex_5 : x_5 = y5_58 + (1) := by omega)
                refine lv_iinc (v := iI x_5) (lv' := [(5, .int (iI x_5)), (0, .ref a0), (1, .ref a1), (2, .int (iI x2)), (4, .int (iI z4_101))]) hx hb dX9_movedClash_101 hl (k := 4) rfl hx_5 (by decide) rfl (fun ls hl => ?_)
                refine lv_goto (tgt := 58) hx hb dX9_movedClash_104 (by decide) ?_
                exact ih58 z4_101 lz4_101 uz4_101 x_5 lx_5 ux_5 L0 fw101 hg hE o_a0 o_a1 (by omega) (by omega) (by first | exact bw.cg (fun x z => z.elim (fun z => mc_to z (by omega)) (fun z => absurd z (mc_0 (by omega)))) | exact bx1.cg (fun x z => z.imp id (fun z => mc_to z (by omega))) | fail "none") (by omega) _ _ _ hw (lv_sub hl [1, 2, 3, 4, 0] rfl)
              refine q_icmp_eq (tgt := 101) hx hb dX9_movedClash_75 (by decide) ⟨lx_4, ux_4⟩ ⟨by decide, by decide⟩ (fun c75 => ?_) (fun c75 => ?_)
              · exact J101 y4_58 ly4_58 uy4_58 L0 fw58 hg hE o_a0 o_a1 (by omega) (by omega) (by first | exact bx.cg (fun x z => z.imp id (fun z => mcc_no (by omega) (by omega) z)) | exact bx.min h93 (by omega) (by omega) (fun x z => (mc_sub od1 (by omega) (by omega) (by omega) x z).symm) (fun x z => z.elim (fun z => Or.inl (Or.inl z)) (fun z => (mcc_yes z).imp Or.inr id)) | fail "none") _ _ _ hw (lv_sub hl [0, 1, 2, 3, 4] rfl)
              · refine lv_iload hx hb dX9_movedClash_78 (lv_at hl 3 rfl) ?_
                refine lv_aload_n hx hb dX9_movedClash_80 rfl (lv_at hl 0 rfl) ?_
                refine lv_aload_n hx hb dX9_movedClash_81 rfl (lv_at hl 1 rfl) ?_
                refine q_getr (ci := 0) (C := RX0) (T := TX0) (N := 15) hx hb hts (fun w h => List.mem_cons_of_mem _ (mfX00 w h)) hown hK hw m_a1 o_a1 rfl 12 (by decide) (hts _ (List.mem_cons_of_mem _ (mr35 _ (List.mem_of_getElem? (i := 6) rfl)))) (fun _ h => h) rfl er_3 dX9_movedClash_82 ?_
                have k87 := TA_e er_3
                refine lv_iload hx hb dX9_movedClash_85 (lv_at hl 4 rfl) ?_
                refine q_iald hx hb hK hw m_r_3 1 o_r_3 rfl ⟨ly5_58, uy5_58⟩ (by omega) (by omega) dX9_movedClash_87 (fun x_6 lx_6 ux_6 ex_6 => ?_)
                have h87 : x_6 = aI f0 (TA f0 a1) y5_58 := ex_6.trans (by rw [k87, TAa1, arr])
                have t87 := tb1 y5_58 (by omega) (by omega)
                refine lv_aload_n hx hb dX9_movedClash_88 rfl (lv_at hl 1 rfl) ?_
                refine q_geti (ci := 0) (C := RX0) (T := TX0) (N := 15) hx hb hts (fun w h => List.mem_cons_of_mem _ (mfX00 w h)) hown hK hw m_a1 o_a1 rfl 2 (by decide) (hts _ (List.mem_cons_of_mem _ (mr32 _ (List.mem_of_getElem? (i := 9) rfl)))) (fun _ h => h) rfl dX9_movedClash_89 (fun x_7 lx_7 ux_7 ex_7 => ?_)
                have l89 : x_7 = g (p1 + 2) := ex_7.trans rb1f.1.1.2.2.1
                refine lv_iload_n hx hb dX9_movedClash_92 rfl (lv_at hl 2 rfl) ?_
                refine q_call_i hA hK hw (va_runV (As := [.int (iI x_6), .int (iI x_7), .int (iI x2)]) (rest := [.int (iI y4_58)]) ⟨hx, hb, hml, hown, hts⟩ (c_X0_meet_o zo l D cy L0 fw58 a0 x_6 lx_6 ux_6 x_7 lx_7 ux_7 x2 lx2 ux2 m_a0 o_a0 hg g p0 rbf O ocf hk m0 m1 q0 q1 (by omega) (by omega) (by omega) (by omega) (by omega) (by omega) _) (cwV 3 hts (gT (inV (mr35 _ (List.mem_of_getElem? (i := 8) rfl)) (mr35 _ (List.mem_of_getElem? (i := 9) rfl)) (mr35 _ (List.mem_of_getElem? (i := 10) rfl)) (mr2 _ (List.mem_of_getElem? (i := 9) rfl)) (mr35 _ (List.mem_of_getElem? (i := 11) rfl)))) rfl rfl rfl (by decide +kernel) ⟨Nat.le_of_ble_eq_true rfl, Nat.le_of_ble_eq_true rfl⟩) (Wd.preV zo hA hZ hw hK m_a0 o_a0 rfl) rfl rfl hl.1 rfl (lv_room (Nat.le_of_ble_eq_true rfl)) dX9_movedClash_93 ⟨Nat.le_of_ble_eq_true rfl, Nat.le_of_ble_eq_true rfl⟩) (fun x_8 L1 f_9 H locs lx_8 ux_8 ex_8 hw => ?_)
                obtain ⟨rfl, hg, hX, ex_8⟩ := ex_8
                have hE := hE.trans hX
                have o_a0 := hX.1.1.1 _ _ o_a0
                have o_a1 := hX.1.1.1 _ _ o_a1
                have h93 : Mn (CL (Oc g p0 O) (g (p0 + 2)) (aI f0 (TA f0 a1) y5_58) (g (p1 + 2)) x2) x_8 := Mn.cl ex_8 h87.symm l89.symm
                clear ex_8
                refine q_min hx hb (hml.trans hl.1.symm) hown (hts _ (List.mem_cons_of_mem _ (mr35 _ (List.mem_of_getElem? (i := 7) rfl)))) (hts _ (List.mem_cons_of_mem _ (mr6 _ (List.mem_of_getElem? (i := 13) rfl)))) (hts _ (List.mem_cons_of_mem _ (mr6 _ (List.mem_of_getElem? (i := 14) rfl)))) (hts _ (List.mem_cons_of_mem _ (mr6 _ (List.mem_of_getElem? (i := 15) rfl)))) (Nat.le_of_ble_eq_true rfl) (Nat.le_of_ble_eq_true rfl) (Nat.le_of_ble_eq_true rfl) (Nat.le_of_ble_eq_true rfl) ⟨ly4_58, uy4_58⟩ ⟨lx_8, ux_8⟩ dX9_movedClash_96 (fun x_10 lx_10 ux_10 ex_10 => ?_)
                refine lv_istore (lv' := [(4, .int (iI x_10)), (0, .ref a0), (1, .ref a1), (2, .int (iI x2)), (5, .int (iI y5_58))]) hx hb dX9_movedClash_99 hl (by decide) rfl (fun ls hl => ?_)
                exact J101 x_10 lx_10 ux_10 L0 f_9 hg hE o_a0 o_a1 (by omega) (by omega) (by first | exact bx.cg (fun x z => z.imp id (fun z => mcc_no (by omega) (by omega) z)) | exact bx.min h93 (by omega) (by omega) (fun x z => (mc_sub od1 (by omega) (by omega) (by omega) x z).symm) (fun x z => z.elim (fun z => Or.inl (Or.inl z)) (fun z => (mcc_yes z).imp Or.inr id)) | fail "none") _ _ _ hw (lv_sub hl [1, 2, 3, 0, 4] rfl)
        exact J58 ((((2147483647 : Int) - 0).toNat) + 1) y4_6 ly4_6 uy4_6 0 (by decide) (by decide) L0 fw6 hg hE o_a0 o_a1 (by omega) (by omega) (by first | exact bw.cg (fun x z => z.elim (fun z => mc_to z (by omega)) (fun z => absurd z (mc_0 (by omega)))) | exact bx1.cg (fun x z => z.imp id (fun z => mc_to z (by omega))) | fail "none") (by omega) _ _ _ hw (lv_sub hl [1, 2, 3, 4, 0] rfl)
      · refine lv_aload_n hx hb dX9_movedClash_15 rfl (lv_at hl 0 rfl) ?_
        obtain ⟨r_11, er_11, m_r_11, o_r_11⟩ := (show ∃ r, fR fw6 a0 12 = some r ∧ r ∈ L0 ∧ ArI fw6 r cy.2.1 16 from hg.2.1 _ m_a0 0 12 o_a0)
        refine q_getr (ci := 0) (C := RX0) (T := TX0) (N := 15) hx hb hts (fun w h => List.mem_cons_of_mem _ (mfX00 w h)) hown hK hw m_a0 o_a0 rfl 12 (by decide) (hts _ (List.mem_cons_of_mem _ (mr35 _ (List.mem_of_getElem? (i := 6) rfl)))) (fun _ h => h) rfl er_11 dX9_movedClash_16 ?_
        have k21 := TA_e er_11
        refine lv_iload hx hb dX9_movedClash_19 (lv_at hl 4 rfl) ?_
        refine q_iald hx hb hK hw m_r_11 1 o_r_11 rfl ⟨ly5_6, uy5_6⟩ (by omega) (by omega) dX9_movedClash_21 (fun x_12 lx_12 ux_12 ex_12 => ?_)
        have h21 : x_12 = aI f0 (TA f0 a0) y5_6 := ex_12.trans (by rw [k21, TAa0, arr])
        have t21 := tb0 y5_6 (by omega) (by omega)
        refine q_iconst hx hb dX9_movedClash_22 ?_
        have J49 : ∀ (z4_49 : Int) (lz4_49 : -2147483648 ≤ z4_49) (uz4_49 : z4_49 ≤ 2147483647) (L : List Nat) (fw49 : Nat → va_E) (hg : GI cy L0 fw49) (hE : Eh cy f0 fw49) (o_a0 : Ob fw49 a0 0) (o_a1 : Ob fw49 a1 0) (j1 : 0 ≤ y5_6) (j2 : y5_6 < fI f0 a0 10) (bw1 : Bw (CC (Oc g p0 O) (g (p0 + 2)) (Oc g p1 O1) (g (p1 + 2)) x2) (fun x => MC (aI f0 (TA f0 a0)) (y5_6 + 1) (Oc g p1 O1) (g (p1 + 2)) (g (p0 + 2)) x2 x) x3 z4_49) (H : Heap) (locs : List Loc) (ls : Array Slot) (hw : Wd D A s.heap L0 fw49 H locs) (hl : lv_has ls 6 [(0, .ref a0), (1, .ref a1), (2, .int (iI x2)), (4, .int (iI z4_49)), (5, .int (iI y5_6))]), W p l e ({ frames := 6, cells := 0, slots := 0, locals := 140 } : Room) s m ([.ref a0, .ref a1, .int (iI x2), .int (iI x3)] : List Value).toArray below meth c H locs (0) (0) (MQ below (Qi D (tq cy) L0 f0 s.heap.size (fun (r : Int) (L1 : List Nat) (f1 : Nat → va_E) => L0 = L1 ∧ GI cy L0 f1 ∧ Eh cy f0 f1 ∧ (Bw (CC (Oc g p0 O) (g (p0 + 2)) (Oc g p1 O1) (g (p1 + 2)) x2) (fun x => MC (aI f0 (TA f0 a0)) (fI f0 a0 10) (Oc g p1 O1) (g (p1 + 2)) (g (p0 + 2)) x2 x ∨ MC (aI f0 (TA f0 a1)) (fI f0 a1 10) (Oc g p0 O) (g (p0 + 2)) (g (p1 + 2)) x2 x) x3 r))) ([.ref a0, .ref a1, .int (iI x2), .int (iI x3)] : List Value).toArray s 0 0 A) (F0 m 49 ls []) := by
          intro z4_49 lz4_49 uz4_49 L fw49 hg hE o_a0 o_a1 j1 j2 bw1 H locs ls hw hl
          obtain ⟨x_13, lx_13, ux_13, hx_13, ex_13⟩ := q_inc y5_6 (1)
          try (replace ex_13 : x_13 = y5_6 + (1) := by omega)
          refine lv_iinc (v := iI x_13) (lv' := [(5, .int (iI x_13)), (0, .ref a0), (1, .ref a1), (2, .int (iI x2)), (4, .int (iI z4_49))]) hx hb dX9_movedClash_49 hl (k := 4) rfl hx_13 (by decide) rfl (fun ls hl => ?_)
          refine lv_goto (tgt := 6) hx hb dX9_movedClash_52 (by decide) ?_
          exact ih6 z4_49 lz4_49 uz4_49 x_13 lx_13 ux_13 L0 fw49 hg hE o_a0 o_a1 (by omega) (by omega) (by first | exact Bw.start (by omega) (fun x => mc_0 (by omega)) | exact bw1.cg (fun x z => mc_to z (by omega)) | fail "none") (by omega) _ _ _ hw (lv_sub hl [1, 2, 3, 4, 0] rfl)
        refine q_icmp_eq (tgt := 49) hx hb dX9_movedClash_23 (by decide) ⟨lx_12, ux_12⟩ ⟨by decide, by decide⟩ (fun c23 => ?_) (fun c23 => ?_)
        · exact J49 y4_6 ly4_6 uy4_6 L0 fw6 hg hE o_a0 o_a1 (by omega) (by omega) (by first | exact bw.cg (fun x z => mcc_no (by omega) (by omega) z) | exact bw.min h41 (by omega) (by omega) (mc_sub od (by omega) (by omega) (by omega)) (fun x z => mcc_yes z) | fail "none") _ _ _ hw (lv_sub hl [0, 1, 2, 3, 4] rfl)
        · refine lv_iload hx hb dX9_movedClash_26 (lv_at hl 3 rfl) ?_
          refine lv_aload_n hx hb dX9_movedClash_28 rfl (lv_at hl 1 rfl) ?_
          refine lv_aload_n hx hb dX9_movedClash_29 rfl (lv_at hl 0 rfl) ?_
          refine q_getr (ci := 0) (C := RX0) (T := TX0) (N := 15) hx hb hts (fun w h => List.mem_cons_of_mem _ (mfX00 w h)) hown hK hw m_a0 o_a0 rfl 12 (by decide) (hts _ (List.mem_cons_of_mem _ (mr35 _ (List.mem_of_getElem? (i := 6) rfl)))) (fun _ h => h) rfl er_11 dX9_movedClash_30 ?_
          have k35 := TA_e er_11
          refine lv_iload hx hb dX9_movedClash_33 (lv_at hl 4 rfl) ?_
          refine q_iald hx hb hK hw m_r_11 1 o_r_11 rfl ⟨ly5_6, uy5_6⟩ (by omega) (by omega) dX9_movedClash_35 (fun x_14 lx_14 ux_14 ex_14 => ?_)
          have h35 : x_14 = aI f0 (TA f0 a0) y5_6 := ex_14.trans (by rw [k35, TAa0, arr])
          have t35 := tb0 y5_6 (by omega) (by omega)
          refine lv_aload_n hx hb dX9_movedClash_36 rfl (lv_at hl 0 rfl) ?_
          refine q_geti (ci := 0) (C := RX0) (T := TX0) (N := 15) hx hb hts (fun w h => List.mem_cons_of_mem _ (mfX00 w h)) hown hK hw m_a0 o_a0 rfl 2 (by decide) (hts _ (List.mem_cons_of_mem _ (mr32 _ (List.mem_of_getElem? (i := 9) rfl)))) (fun _ h => h) rfl dX9_movedClash_37 (fun x_15 lx_15 ux_15 ex_15 => ?_)
          have l37 : x_15 = g (p0 + 2) := ex_15.trans rbf.1.1.2.2.1
          refine lv_iload_n hx hb dX9_movedClash_40 rfl (lv_at hl 2 rfl) ?_
          refine q_call_i hA hK hw (va_runV (As := [.int (iI x_14), .int (iI x_15), .int (iI x2)]) (rest := [.int (iI y4_6)]) ⟨hx, hb, hml, hown, hts⟩ (c_X0_meet_o zo l D cy L0 fw6 a1 x_14 lx_14 ux_14 x_15 lx_15 ux_15 x2 lx2 ux2 m_a1 o_a1 hg g p1 rb1f O1 oc1f hk1 n0 n1 k0 k1 (by omega) (by omega) (by omega) (by omega) (by omega) (by omega) _) (cwV 3 hts (gT (inV (mr35 _ (List.mem_of_getElem? (i := 8) rfl)) (mr35 _ (List.mem_of_getElem? (i := 9) rfl)) (mr35 _ (List.mem_of_getElem? (i := 10) rfl)) (mr2 _ (List.mem_of_getElem? (i := 9) rfl)) (mr35 _ (List.mem_of_getElem? (i := 11) rfl)))) rfl rfl rfl (by decide +kernel) ⟨Nat.le_of_ble_eq_true rfl, Nat.le_of_ble_eq_true rfl⟩) (Wd.preV zo hA hZ hw hK m_a1 o_a1 rfl) rfl rfl hl.1 rfl (lv_room (Nat.le_of_ble_eq_true rfl)) dX9_movedClash_41 ⟨Nat.le_of_ble_eq_true rfl, Nat.le_of_ble_eq_true rfl⟩) (fun x_16 L1 f_17 H locs lx_16 ux_16 ex_16 hw => ?_)
          obtain ⟨rfl, hg, hX, ex_16⟩ := ex_16
          have hE := hE.trans hX
          have o_a0 := hX.1.1.1 _ _ o_a0
          have o_a1 := hX.1.1.1 _ _ o_a1
          have h41 : Mn (CL (Oc g p1 O1) (g (p1 + 2)) (aI f0 (TA f0 a0) y5_6) (g (p0 + 2)) x2) x_16 := Mn.cl ex_16 h35.symm l37.symm
          clear ex_16
          refine q_min hx hb (hml.trans hl.1.symm) hown (hts _ (List.mem_cons_of_mem _ (mr35 _ (List.mem_of_getElem? (i := 7) rfl)))) (hts _ (List.mem_cons_of_mem _ (mr6 _ (List.mem_of_getElem? (i := 13) rfl)))) (hts _ (List.mem_cons_of_mem _ (mr6 _ (List.mem_of_getElem? (i := 14) rfl)))) (hts _ (List.mem_cons_of_mem _ (mr6 _ (List.mem_of_getElem? (i := 15) rfl)))) (Nat.le_of_ble_eq_true rfl) (Nat.le_of_ble_eq_true rfl) (Nat.le_of_ble_eq_true rfl) (Nat.le_of_ble_eq_true rfl) ⟨ly4_6, uy4_6⟩ ⟨lx_16, ux_16⟩ dX9_movedClash_44 (fun x_18 lx_18 ux_18 ex_18 => ?_)
          refine lv_istore (lv' := [(4, .int (iI x_18)), (0, .ref a0), (1, .ref a1), (2, .int (iI x2)), (5, .int (iI y5_6))]) hx hb dX9_movedClash_47 hl (by decide) rfl (fun ls hl => ?_)
          exact J49 x_18 lx_18 ux_18 L0 f_17 hg hE o_a0 o_a1 (by omega) (by omega) (by first | exact bw.cg (fun x z => mcc_no (by omega) (by omega) z) | exact bw.min h41 (by omega) (by omega) (mc_sub od (by omega) (by omega) (by omega)) (fun x z => mcc_yes z) | fail "none") _ _ _ hw (lv_sub hl [1, 2, 3, 0, 4] rfl)
  exact J6 ((((2147483647 : Int) - 0).toNat) + 1) x3 lx3 ux3 0 (by decide) (by decide) L0 f0 hg hE o_a0 o_a1 (by omega) (by omega) (by first | exact Bw.start (by omega) (fun x => mc_0 (by omega)) | exact bw1.cg (fun x z => mc_to z (by omega)) | fail "none") (by omega) _ _ _ hw (lv_sub hl [2, 3, 4, 1, 0] rfl)
set_option maxHeartbeats 4000000 in
set_option maxRecDepth 100000 in
theorem c_X9_lastKeyToTry_o {Z : Zt} (zo : Zok Z) (l : Launch) (D : va_G) (cy : Cy) (L0 : List Nat) (f0 : Nat → va_E) (a0 : Nat) (a1 : Nat) (x2 : Int) (lx2 : -2147483648 ≤ x2) (ux2 : x2 ≤ 2147483647) (m_a0 : a0 ∈ L0) (o_a0 : Ob f0 a0 0) (m_a1 : a1 ∈ L0) (o_a1 : Ob f0 a1 0) (hg : GI cy L0 f0) (g : Int → Int) (p0 : Int) (rb : RB f0 a0 g p0) (O : Int → Int) (oc : OC f0 a0 O) (hk : OKk g p0 O) (m0 : 0 ≤ g (p0 + 1)) (m1 : g (p0 + 1) ≤ 1439) (p1 : Int) (rb1 : RB f0 a1 g p1) (O1 : Int → Int) (oc1 : OC f0 a1 O1) (hk1 : OKk g p1 O1) (n0 : 0 ≤ g (p1 + 1)) (n1 : g (p1 + 1) ≤ 1439) (w0 : 0 ≤ x2) (w1 : x2 ≤ 52595999) : Ci Z l yX9_lastKeyToTry (Cond.code yX9_lastKeyToTry cX9_lastKeyToTry 6 (some .int) :: TB) ({ frames := 3, cells := 0, slots := 0, locals := 75 } : Room) 0 0 D (tq cy) [.ref a0, .ref a1, .int (iI x2)] L0 f0 (fun (r : Int) (L1 : List Nat) (f1 : Nat → va_E) => L0 = L1 ∧ f0 = f1 ∧ ((lcF (cyK (g (p0 + 3)) (g (p0 + 4))) (cyK (g (p1 + 3)) (g (p1 + 4))) = 0 ∧ r = 36524) ∨ (lcF (cyK (g (p0 + 3)) (g (p0 + 4))) (cyK (g (p1 + 3)) (g (p1 + 4))) ≠ 0 ∧ r = min ((max (max (fI f0 a0 7) (fI f0 a1 7)) (x2 / 1440 + 1) + 4) + (fI f0 a0 10 + fI f0 a1 10 + 1) * lcF (cyK (g (p0 + 3)) (g (p0 + 4))) (cyK (g (p1 + 3)) (g (p1 + 4)))) 36524))) := by
  refine Ci.enter (cc := cX9_lastKeyToTry) (n := 6) rfl (plainFor_of_name (by decide)) (Nat.le_of_ble_eq_true rfl) ?_
  intro p e s m below meth c ls A hx hb hr hts hown hlocks hnm hml hK hA hAe hw hZ hl
  have hown : s.vm.findClass RX9 = some m.cls := hown
  have hl : lv_has ls 6 [(0, .ref a0), (1, .ref a1), (2, .int (iI x2))] := hl
  have hN : ZN s := (zo.2.2.2.2 _ _ _ hZ).2
  have bb0 : 0 ≤ fI f0 a0 10 ∧ fI f0 a0 10 ≤ 16 := hg.1 _ m_a0 0 10 o_a0
  have bb1 : 0 ≤ fI f0 a1 10 ∧ fI f0 a1 10 ≤ 16 := hg.1 _ m_a1 0 10 o_a1
  have hr0 : ∀ d : Int, KG g p0 d → 0 ≤ d ∧ d ≤ 36524 := fun d z => by have := rb.2.1.rg z; omega
  have fk0 := bd_fk rb.2.1 hr0
  have hr1 : ∀ d : Int, KG g p1 d → 0 ≤ d ∧ d ≤ 36524 := fun d z => by have := rb1.2.1.rg z; omega
  have fk1 := bd_fk rb1.2.1 hr1
  obtain ⟨r0, er, rk⟩ := rb.rule
  obtain ⟨kk, ekk⟩ : ∃ z : Int, z = g (p0 + 3) := ⟨_, rfl⟩
  obtain ⟨nn, enn⟩ : ∃ z : Int, z = g (p0 + 4) := ⟨_, rfl⟩
  obtain ⟨ss, ess⟩ : ∃ z : Int, z = g (p0 + 5) := ⟨_, rfl⟩
  obtain ⟨vv, evv⟩ : ∃ z : Int, z = g (p0 + 6) := ⟨_, rfl⟩
  obtain ⟨ww, eww⟩ : ∃ z : Int, z = g (p0 + 7) := ⟨_, rfl⟩
  rw [← ekk, ← enn, ← ess, ← evv, ← eww] at rk
  have okw := rk.words
  have cyb := cy_b (k := kk) (n := nn) okw.1 okw.2.2.1
  refine lv_aload_n hx hb dX9_lastKeyToTry_0 rfl (lv_at hl 0 rfl) ?_
  obtain ⟨r_1, er_1, m_r_1, o_r_1⟩ := (show ∃ r, fR f0 a0 3 = some r ∧ r ∈ L0 ∧ Rl f0 r from hg.2.1 _ m_a0 0 3 o_a0)
  refine q_getr (ci := 0) (C := RX0) (T := TX0) (N := 15) hx hb hts (fun w h => List.mem_cons_of_mem _ (mfX00 w h)) hown hK hw m_a0 o_a0 rfl 3 (by decide) (hts _ (List.mem_cons_of_mem _ (mr36 _ (List.mem_of_getElem? (i := 0) rfl)))) (fun _ h => h) rfl er_1 dX9_lastKeyToTry_1 ?_
  have K4 : ∀ (x_2 : Int) (lx_2 : -9223372036854775808 ≤ x_2) (ux_2 : x_2 ≤ 9223372036854775807) (ex_2 : x_2 = cyK kk nn) (H : Heap) (locs : List Loc) (hw : Wd D A s.heap L0 f0 H locs), W p l e ({ frames := 3, cells := 0, slots := 0, locals := 75 } : Room) s m ([.ref a0, .ref a1, .int (iI x2)] : List Value).toArray below meth c H locs (0) (0) (MQ below (Qi D (tq cy) L0 f0 s.heap.size (fun (r : Int) (L1 : List Nat) (f1 : Nat → va_E) => L0 = L1 ∧ f0 = f1 ∧ ((lcF (cyK (g (p0 + 3)) (g (p0 + 4))) (cyK (g (p1 + 3)) (g (p1 + 4))) = 0 ∧ r = 36524) ∨ (lcF (cyK (g (p0 + 3)) (g (p0 + 4))) (cyK (g (p1 + 3)) (g (p1 + 4))) ≠ 0 ∧ r = min ((max (max (fI f0 a0 7) (fI f0 a1 7)) (x2 / 1440 + 1) + 4) + (fI f0 a0 10 + fI f0 a1 10 + 1) * lcF (cyK (g (p0 + 3)) (g (p0 + 4))) (cyK (g (p1 + 3)) (g (p1 + 4)))) 36524)))) ([.ref a0, .ref a1, .int (iI x2)] : List Value).toArray s 0 0 A) (F0 m 7 ls (.long (lJ x_2) :: [])) := by
    intro x_2 lx_2 ux_2 ex_2 H locs hw
    have h4 : x_2 = cyK (g (p0 + 3)) (g (p0 + 4)) := ex_2.trans (show cyK kk nn = cyK (g (p0 + 3)) (g (p0 + 4)) by rw [ekk, enn])
    rw [show cyK kk nn = cyK (g (p0 + 3)) (g (p0 + 4)) by rw [ekk, enn]] at cyb
    have cyb0 := cyb
    clear ex_2 ekk enn ess evv eww rk er okw cyb
    obtain ⟨r0, er, rk⟩ := rb1.rule
    obtain ⟨kk, ekk⟩ : ∃ z : Int, z = g (p1 + 3) := ⟨_, rfl⟩
    obtain ⟨nn, enn⟩ : ∃ z : Int, z = g (p1 + 4) := ⟨_, rfl⟩
    obtain ⟨ss, ess⟩ : ∃ z : Int, z = g (p1 + 5) := ⟨_, rfl⟩
    obtain ⟨vv, evv⟩ : ∃ z : Int, z = g (p1 + 6) := ⟨_, rfl⟩
    obtain ⟨ww, eww⟩ : ∃ z : Int, z = g (p1 + 7) := ⟨_, rfl⟩
    rw [← ekk, ← enn, ← ess, ← evv, ← eww] at rk
    have okw := rk.words
    have cyb := cy_b (k := kk) (n := nn) okw.1 okw.2.2.1
    refine lv_aload_n hx hb dX9_lastKeyToTry_7 rfl (lv_at hl 1 rfl) ?_
    obtain ⟨r_3, er_3, m_r_3, o_r_3⟩ := (show ∃ r, fR f0 a1 3 = some r ∧ r ∈ L0 ∧ Rl f0 r from hg.2.1 _ m_a1 0 3 o_a1)
    refine q_getr (ci := 0) (C := RX0) (T := TX0) (N := 15) hx hb hts (fun w h => List.mem_cons_of_mem _ (mfX00 w h)) hown hK hw m_a1 o_a1 rfl 3 (by decide) (hts _ (List.mem_cons_of_mem _ (mr36 _ (List.mem_of_getElem? (i := 0) rfl)))) (fun _ h => h) rfl er_3 dX9_lastKeyToTry_8 ?_
    have K11 : ∀ (x_4 : Int) (lx_4 : -9223372036854775808 ≤ x_4) (ux_4 : x_4 ≤ 9223372036854775807) (ex_4 : x_4 = cyK kk nn) (H : Heap) (locs : List Loc) (hw : Wd D A s.heap L0 f0 H locs), W p l e ({ frames := 3, cells := 0, slots := 0, locals := 75 } : Room) s m ([.ref a0, .ref a1, .int (iI x2)] : List Value).toArray below meth c H locs (0) (0) (MQ below (Qi D (tq cy) L0 f0 s.heap.size (fun (r : Int) (L1 : List Nat) (f1 : Nat → va_E) => L0 = L1 ∧ f0 = f1 ∧ ((lcF (cyK (g (p0 + 3)) (g (p0 + 4))) (cyK (g (p1 + 3)) (g (p1 + 4))) = 0 ∧ r = 36524) ∨ (lcF (cyK (g (p0 + 3)) (g (p0 + 4))) (cyK (g (p1 + 3)) (g (p1 + 4))) ≠ 0 ∧ r = min ((max (max (fI f0 a0 7) (fI f0 a1 7)) (x2 / 1440 + 1) + 4) + (fI f0 a0 10 + fI f0 a1 10 + 1) * lcF (cyK (g (p0 + 3)) (g (p0 + 4))) (cyK (g (p1 + 3)) (g (p1 + 4)))) 36524)))) ([.ref a0, .ref a1, .int (iI x2)] : List Value).toArray s 0 0 A) (F0 m 14 ls (.long (lJ x_4) :: [.long (lJ x_2)])) := by
      intro x_4 lx_4 ux_4 ex_4 H locs hw
      have h11 : x_4 = cyK (g (p1 + 3)) (g (p1 + 4)) := ex_4.trans (show cyK kk nn = cyK (g (p1 + 3)) (g (p1 + 4)) by rw [ekk, enn])
      rw [show cyK kk nn = cyK (g (p1 + 3)) (g (p1 + 4)) by rw [ekk, enn]] at cyb
      have cyb1 := cyb
      clear ex_4 ekk enn ess evv eww rk er okw cyb
      refine q_call_l hA hK hw (va_runS (As := [.long (lJ x_2), .long (lJ x_4)]) (rest := []) ⟨hx, hb, hml, hown, hts⟩ (c_X9_commonMultiple_f zo l D cy L0 f0 x_2 lx_2 ux_2 x_4 lx_4 ux_4 (by omega) (by omega) (by omega) (by omega) _) (va_cwS 2 hts (gT (inS (mr37 _ (List.mem_of_getElem? (i := 3) rfl)) (mr36 _ (List.mem_of_getElem? (i := 15) rfl)) (mr1 _ (List.mem_of_getElem? (i := 2) rfl)) (mr36 _ (List.mem_of_getElem? (i := 16) rfl)))) rfl rfl rfl (by decide +kernel) ⟨Nat.le_of_ble_eq_true rfl, Nat.le_of_ble_eq_true rfl⟩) (Wd.preS zo hA hZ hw hK) rfl rfl hl.1 rfl (lv_room (Nat.le_of_ble_eq_true rfl)) dX9_lastKeyToTry_14 ⟨Nat.le_of_ble_eq_true rfl, Nat.le_of_ble_eq_true rfl⟩) (fun x_5 L1 f1 H locs lx_5 ux_5 ex_5 hw => ?_)
      obtain ⟨rfl, rfl, ex_5⟩ := ex_5
      have h14 : x_5 = lcF (cyK (g (p0 + 3)) (g (p0 + 4))) (cyK (g (p1 + 3)) (g (p1 + 4))) := ex_5.trans (by rw [h4, h11])
      have lkb : 0 ≤ lcF (cyK (g (p0 + 3)) (g (p0 + 4))) (cyK (g (p1 + 3)) (g (p1 + 4))) ∧ lcF (cyK (g (p0 + 3)) (g (p0 + 4))) (cyK (g (p1 + 3)) (g (p1 + 4))) ≤ 22000000000000 := rb.rule.elim (fun _ z => rb1.rule.elim (fun _ z1 => lc_ck z.2.words z1.2.words))
      rw [← h14] at lkb
      have lk0 := lkb.1
      have lk1 := lkb.2
      refine lv_lstore_n (lv' := [(3, .long (lJ x_5)), (0, .ref a0), (1, .ref a1), (2, .int (iI x2))]) hx hb dX9_lastKeyToTry_17 rfl hl (by decide) rfl (fun ls hl => ?_)
      refine lv_lload_n hx hb dX9_lastKeyToTry_18 rfl (lv_at hl 0 rfl) ?_
      refine q_lconst0 hx hb dX9_lastKeyToTry_19 ?_
      refine q_lcmp hx hb dX9_lastKeyToTry_20 ⟨lx_5, ux_5⟩ ⟨by decide, by decide⟩ (fun x_6 lx_6 ux_6 ex_6 => ?_)
      refine q_if_ne (tgt := 27) hx hb dX9_lastKeyToTry_21 (by decide) ⟨lx_6, ux_6⟩ (fun c21 => ?_) (fun c21 => ?_)
      · refine lv_aload_n hx hb dX9_lastKeyToTry_27 rfl (lv_at hl 1 rfl) ?_
        refine q_geti (ci := 0) (C := RX0) (T := TX0) (N := 15) hx hb hts (fun w h => List.mem_cons_of_mem _ (mfX00 w h)) hown hK hw m_a0 o_a0 rfl 7 (by decide) (hts _ (List.mem_cons_of_mem _ (mr35 _ (List.mem_of_getElem? (i := 19) rfl)))) (fun _ h => h) rfl dX9_lastKeyToTry_28 (fun x_7 lx_7 ux_7 ex_7 => ?_)
        refine lv_aload_n hx hb dX9_lastKeyToTry_31 rfl (lv_at hl 2 rfl) ?_
        refine q_geti (ci := 0) (C := RX0) (T := TX0) (N := 15) hx hb hts (fun w h => List.mem_cons_of_mem _ (mfX00 w h)) hown hK hw m_a1 o_a1 rfl 7 (by decide) (hts _ (List.mem_cons_of_mem _ (mr35 _ (List.mem_of_getElem? (i := 19) rfl)))) (fun _ h => h) rfl dX9_lastKeyToTry_32 (fun x_8 lx_8 ux_8 ex_8 => ?_)
        refine q_max hx hb (hml.trans hl.1.symm) hown (hts _ (List.mem_cons_of_mem _ (mr35 _ (List.mem_of_getElem? (i := 20) rfl)))) (hts _ (List.mem_cons_of_mem _ (mr13 _ (List.mem_of_getElem? (i := 0) rfl)))) (hts _ (List.mem_cons_of_mem _ (mr6 _ (List.mem_of_getElem? (i := 14) rfl)))) (hts _ (List.mem_cons_of_mem _ (mr13 _ (List.mem_of_getElem? (i := 1) rfl)))) (Nat.le_of_ble_eq_true rfl) (Nat.le_of_ble_eq_true rfl) (Nat.le_of_ble_eq_true rfl) (Nat.le_of_ble_eq_true rfl) ⟨lx_7, ux_7⟩ ⟨lx_8, ux_8⟩ dX9_lastKeyToTry_35 (fun x_9 lx_9 ux_9 ex_9 => ?_)
        refine lv_iload_n hx hb dX9_lastKeyToTry_38 rfl (lv_at hl 3 rfl) ?_
        refine q_sipush hx hb dX9_lastKeyToTry_39 rfl ?_
        first | refine q_idiv hx hb dX9_lastKeyToTry_42 ⟨lx2, ux2⟩ ⟨by decide, by decide⟩ (by omega) (by omega) (fun x_10 lx_10 ux_10 ex_10 => ?_) | refine q_idivw hx hb dX9_lastKeyToTry_42 ⟨lx2, ux2⟩ ⟨by decide, by decide⟩ (by omega) (fun x_10 lx_10 ux_10 ex_10 => ?_)
        refine q_iconst hx hb dX9_lastKeyToTry_43 ?_
        first | refine q_iadd hx hb dX9_lastKeyToTry_44 ⟨by omega, by omega⟩ (fun x_11 lx_11 ux_11 ex_11 => ?_) | refine q_iaddw hx hb dX9_lastKeyToTry_44 (fun x_11 lx_11 ux_11 _ => ?_)
        refine q_max hx hb (hml.trans hl.1.symm) hown (hts _ (List.mem_cons_of_mem _ (mr35 _ (List.mem_of_getElem? (i := 20) rfl)))) (hts _ (List.mem_cons_of_mem _ (mr13 _ (List.mem_of_getElem? (i := 0) rfl)))) (hts _ (List.mem_cons_of_mem _ (mr6 _ (List.mem_of_getElem? (i := 14) rfl)))) (hts _ (List.mem_cons_of_mem _ (mr13 _ (List.mem_of_getElem? (i := 1) rfl)))) (Nat.le_of_ble_eq_true rfl) (Nat.le_of_ble_eq_true rfl) (Nat.le_of_ble_eq_true rfl) (Nat.le_of_ble_eq_true rfl) ⟨lx_9, ux_9⟩ ⟨lx_11, ux_11⟩ dX9_lastKeyToTry_45 (fun x_12 lx_12 ux_12 ex_12 => ?_)
        refine q_iconst hx hb dX9_lastKeyToTry_48 ?_
        first | refine q_iadd hx hb dX9_lastKeyToTry_49 ⟨by omega, by omega⟩ (fun x_13 lx_13 ux_13 ex_13 => ?_) | refine q_iaddw hx hb dX9_lastKeyToTry_49 (fun x_13 lx_13 ux_13 _ => ?_)
        refine lv_istore (lv' := [(5, .int (iI x_13)), (3, .long (lJ x_5)), (0, .ref a0), (1, .ref a1), (2, .int (iI x2))]) hx hb dX9_lastKeyToTry_50 hl (by decide) rfl (fun ls hl => ?_)
        refine lv_iload hx hb dX9_lastKeyToTry_52 (lv_at hl 0 rfl) ?_
        refine q_i2l hx hb dX9_lastKeyToTry_54 ⟨lx_13, ux_13⟩ ?_
        obtain ⟨j_14, lj_14, uj_14, ej_14⟩ : ∃ z : Int, -9223372036854775808 ≤ z ∧ z ≤ 9223372036854775807 ∧ x_13 = z := ⟨x_13, by omega, by omega, rfl⟩
        rw [show (lJ x_13) = lJ j_14 from by rw [ej_14]]
        refine lv_aload_n hx hb dX9_lastKeyToTry_55 rfl (lv_at hl 2 rfl) ?_
        refine q_geti (ci := 0) (C := RX0) (T := TX0) (N := 15) hx hb hts (fun w h => List.mem_cons_of_mem _ (mfX00 w h)) hown hK hw m_a0 o_a0 rfl 10 (by decide) (hts _ (List.mem_cons_of_mem _ (mr35 _ (List.mem_of_getElem? (i := 5) rfl)))) (fun _ h => h) rfl dX9_lastKeyToTry_56 (fun x_15 lx_15 ux_15 ex_15 => ?_)
        have bx_15 : 0 ≤ x_15 ∧ x_15 ≤ 16 := by rw [ex_15]; exact hg.1 _ m_a0 0 10 o_a0
        refine lv_aload_n hx hb dX9_lastKeyToTry_59 rfl (lv_at hl 3 rfl) ?_
        refine q_geti (ci := 0) (C := RX0) (T := TX0) (N := 15) hx hb hts (fun w h => List.mem_cons_of_mem _ (mfX00 w h)) hown hK hw m_a1 o_a1 rfl 10 (by decide) (hts _ (List.mem_cons_of_mem _ (mr35 _ (List.mem_of_getElem? (i := 5) rfl)))) (fun _ h => h) rfl dX9_lastKeyToTry_60 (fun x_16 lx_16 ux_16 ex_16 => ?_)
        have bx_16 : 0 ≤ x_16 ∧ x_16 ≤ 16 := by rw [ex_16]; exact hg.1 _ m_a1 0 10 o_a1
        first | refine q_iadd hx hb dX9_lastKeyToTry_63 ⟨by omega, by omega⟩ (fun x_17 lx_17 ux_17 ex_17 => ?_) | refine q_iaddw hx hb dX9_lastKeyToTry_63 (fun x_17 lx_17 ux_17 _ => ?_)
        refine q_iconst hx hb dX9_lastKeyToTry_64 ?_
        first | refine q_iadd hx hb dX9_lastKeyToTry_65 ⟨by omega, by omega⟩ (fun x_18 lx_18 ux_18 ex_18 => ?_) | refine q_iaddw hx hb dX9_lastKeyToTry_65 (fun x_18 lx_18 ux_18 _ => ?_)
        refine q_i2l hx hb dX9_lastKeyToTry_66 ⟨lx_18, ux_18⟩ ?_
        obtain ⟨j_19, lj_19, uj_19, ej_19⟩ : ∃ z : Int, -9223372036854775808 ≤ z ∧ z ≤ 9223372036854775807 ∧ x_18 = z := ⟨x_18, by omega, by omega, rfl⟩
        rw [show (lJ x_18) = lJ j_19 from by rw [ej_19]]
        have e66 : j_19 = fI f0 a0 10 + fI f0 a1 10 + 1 := by omega
        have hm := lk_b (z := j_19) (c := x_5) (by omega) (by omega) lk0 lk1
        refine lv_lload_n hx hb dX9_lastKeyToTry_67 rfl (lv_at hl 1 rfl) ?_
        first | refine q_lmul hx hb dX9_lastKeyToTry_68 ⟨by omega, by omega⟩ (fun j_20 lj_20 uj_20 ej_20 => ?_) | refine q_lmulw hx hb dX9_lastKeyToTry_68 (fun j_20 lj_20 uj_20 ej_20 => ?_)
        have h68 := ej_20
        first | refine q_ladd hx hb dX9_lastKeyToTry_69 ⟨by omega, by omega⟩ (fun j_21 lj_21 uj_21 ej_21 => ?_) | refine q_laddw hx hb dX9_lastKeyToTry_69 (fun j_21 lj_21 uj_21 ej_21 => ?_)
        refine q_ldc2 (n := 36524) hx hb hown (hts _ (List.mem_cons_of_mem _ (mr36 _ (List.mem_of_getElem? (i := 1) rfl)))) rfl dX9_lastKeyToTry_70 ?_
        refine va_mmin_long hx hb (hml.trans hl.1.symm) hown (hts _ (List.mem_cons_of_mem _ (mr36 _ (List.mem_of_getElem? (i := 2) rfl)))) (hts _ (List.mem_cons_of_mem _ (mr36 _ (List.mem_of_getElem? (i := 3) rfl)))) (hts _ (List.mem_cons_of_mem _ (mr6 _ (List.mem_of_getElem? (i := 14) rfl)))) (hts _ (List.mem_cons_of_mem _ (mr36 _ (List.mem_of_getElem? (i := 4) rfl)))) (Nat.le_of_ble_eq_true rfl) (Nat.le_of_ble_eq_true rfl) (Nat.le_of_ble_eq_true rfl) (Nat.le_of_ble_eq_true rfl) dX9_lastKeyToTry_73 ?_
        refine q_numl (fun j_22 lj_22 uj_22 ej_22 => ?_)
        have h73 := lk_min ⟨by omega, by omega⟩ ⟨by omega, by omega⟩ ej_22
        refine q_l2iv hx hb dX9_lastKeyToTry_76 (fun x_23 lx_23 ux_23 ex_23 => ?_)
        have h76 := ex_23
        exact q_ret_i hx hb hr hlocks hK hAe hw ⟨lx_23, ux_23⟩ (Nat.le_of_ble_eq_true rfl) (Nat.le_of_ble_eq_true rfl) dX9_lastKeyToTry_77 ⟨rfl, rfl, by exact Or.inr ⟨by rw [← h14]; omega, by rw [← h14]; exact lk_fin h76 h73 h68 e66 (by omega) (by omega) (by omega)⟩⟩
      · refine q_ldc (n := 36524) hx hb hown (hts _ (List.mem_cons_of_mem _ (mr23 _ (List.mem_of_getElem? (i := 16) rfl)))) rfl dX9_lastKeyToTry_24 ?_
        exact q_ret_i hx hb hr hlocks hK hAe hw ⟨by decide, by decide⟩ (Nat.le_of_ble_eq_true rfl) (Nat.le_of_ble_eq_true rfl) dX9_lastKeyToTry_26 ⟨rfl, rfl, by exact Or.inl ⟨by rw [← h14]; omega, rfl⟩⟩
    rcases o_r_3 with o9 | o9 | o9 | o9
    · refine q_call_l hA hK hw (va_runU (As := []) (rest := [.long (lJ x_2)]) ⟨hx, hb, hml, hown, hts⟩ (c_X2_cycle_f zo l D cy L0 f0 r_3 m_r_3 o9 hg kk nn ss vv ww (by have z9 := Option.some.inj (er_3.symm.trans er); rw [z9]; exact rk) _) (va_cwA 0 hts (gT (inU (mr36 _ (List.mem_of_getElem? (i := 5) rfl)) (mr36 _ (List.mem_of_getElem? (i := 6) rfl)) (mr36 _ (List.mem_of_getElem? (i := 7) rfl)) (mr36 _ (List.mem_of_getElem? (i := 8) rfl)) (mr12 _ (List.mem_of_getElem? (i := 12) rfl)) (mr36 _ (List.mem_of_getElem? (i := 9) rfl)))) rfl rfl rfl (hN _ (List.mem_of_getElem? (i := 18) rfl)) (by decide +kernel) ⟨Nat.le_of_ble_eq_true rfl, Nat.le_of_ble_eq_true rfl⟩) (Wd.preV zo hA hZ hw hK m_r_3 o9 rfl) rfl rfl hl.1 rfl (lv_room (Nat.le_of_ble_eq_true rfl)) dX9_lastKeyToTry_11 ⟨Nat.le_of_ble_eq_true rfl, Nat.le_of_ble_eq_true rfl⟩) (fun x_4 L1 f1 H locs lx_4 ux_4 ex_4 hw => ?_)
      obtain ⟨rfl, rfl, ex_4⟩ := ex_4
      exact K11 x_4 lx_4 ux_4 ex_4 H locs hw
    · refine q_call_l hA hK hw (va_runU (As := []) (rest := [.long (lJ x_2)]) ⟨hx, hb, hml, hown, hts⟩ (c_X3_cycle_f zo l D cy L0 f0 r_3 m_r_3 o9 hg kk nn ss vv ww (by have z9 := Option.some.inj (er_3.symm.trans er); rw [z9]; exact rk) _) (va_cwA 0 hts (gT (inU (mr36 _ (List.mem_of_getElem? (i := 5) rfl)) (mr36 _ (List.mem_of_getElem? (i := 6) rfl)) (mr36 _ (List.mem_of_getElem? (i := 10) rfl)) (mr36 _ (List.mem_of_getElem? (i := 11) rfl)) (mr12 _ (List.mem_of_getElem? (i := 18) rfl)) (mr36 _ (List.mem_of_getElem? (i := 12) rfl)))) rfl rfl rfl (hN _ (List.mem_of_getElem? (i := 18) rfl)) (by decide +kernel) ⟨Nat.le_of_ble_eq_true rfl, Nat.le_of_ble_eq_true rfl⟩) (Wd.preV zo hA hZ hw hK m_r_3 o9 rfl) rfl rfl hl.1 rfl (lv_room (Nat.le_of_ble_eq_true rfl)) dX9_lastKeyToTry_11 ⟨Nat.le_of_ble_eq_true rfl, Nat.le_of_ble_eq_true rfl⟩) (fun x_4 L1 f1 H locs lx_4 ux_4 ex_4 hw => ?_)
      obtain ⟨rfl, rfl, ex_4⟩ := ex_4
      exact K11 x_4 lx_4 ux_4 ex_4 H locs hw
    · refine q_call_l hA hK hw (va_runU (As := []) (rest := [.long (lJ x_2)]) ⟨hx, hb, hml, hown, hts⟩ (c_X4_cycle_f zo l D cy L0 f0 r_3 m_r_3 o9 hg kk nn ss vv ww (by have z9 := Option.some.inj (er_3.symm.trans er); rw [z9]; exact rk) _) (va_cwA 0 hts (gT (inU (mr36 _ (List.mem_of_getElem? (i := 5) rfl)) (mr36 _ (List.mem_of_getElem? (i := 6) rfl)) (mr36 _ (List.mem_of_getElem? (i := 20) rfl)) (mr36 _ (List.mem_of_getElem? (i := 21) rfl)) (mr2 _ (List.mem_of_getElem? (i := 7) rfl)) (mr36 _ (List.mem_of_getElem? (i := 22) rfl)))) rfl rfl rfl (hN _ (List.mem_of_getElem? (i := 18) rfl)) (by decide +kernel) ⟨Nat.le_of_ble_eq_true rfl, Nat.le_of_ble_eq_true rfl⟩) (Wd.preV zo hA hZ hw hK m_r_3 o9 rfl) rfl rfl hl.1 rfl (lv_room (Nat.le_of_ble_eq_true rfl)) dX9_lastKeyToTry_11 ⟨Nat.le_of_ble_eq_true rfl, Nat.le_of_ble_eq_true rfl⟩) (fun x_4 L1 f1 H locs lx_4 ux_4 ex_4 hw => ?_)
      obtain ⟨rfl, rfl, ex_4⟩ := ex_4
      exact K11 x_4 lx_4 ux_4 ex_4 H locs hw
    · refine q_call_l hA hK hw (va_runU (As := []) (rest := [.long (lJ x_2)]) ⟨hx, hb, hml, hown, hts⟩ (c_X8_cycle_f zo l D cy L0 f0 r_3 m_r_3 o9 hg kk nn ss vv ww (by have z9 := Option.some.inj (er_3.symm.trans er); rw [z9]; exact rk) _) (va_cwA 0 hts (gT (inU (mr36 _ (List.mem_of_getElem? (i := 5) rfl)) (mr36 _ (List.mem_of_getElem? (i := 6) rfl)) (mr36 _ (List.mem_of_getElem? (i := 23) rfl)) (mr37 _ (List.mem_of_getElem? (i := 0) rfl)) (mr12 _ (List.mem_of_getElem? (i := 15) rfl)) (mr37 _ (List.mem_of_getElem? (i := 1) rfl)))) rfl rfl rfl (hN _ (List.mem_of_getElem? (i := 18) rfl)) (by decide +kernel) ⟨Nat.le_of_ble_eq_true rfl, Nat.le_of_ble_eq_true rfl⟩) (Wd.preV zo hA hZ hw hK m_r_3 o9 rfl) rfl rfl hl.1 rfl (lv_room (Nat.le_of_ble_eq_true rfl)) dX9_lastKeyToTry_11 ⟨Nat.le_of_ble_eq_true rfl, Nat.le_of_ble_eq_true rfl⟩) (fun x_4 L1 f1 H locs lx_4 ux_4 ex_4 hw => ?_)
      obtain ⟨rfl, rfl, ex_4⟩ := ex_4
      exact K11 x_4 lx_4 ux_4 ex_4 H locs hw
  rcases o_r_1 with o9 | o9 | o9 | o9
  · refine q_call_l hA hK hw (va_runU (As := []) (rest := []) ⟨hx, hb, hml, hown, hts⟩ (c_X2_cycle_f zo l D cy L0 f0 r_1 m_r_1 o9 hg kk nn ss vv ww (by have z9 := Option.some.inj (er_1.symm.trans er); rw [z9]; exact rk) _) (va_cwA 0 hts (gT (inU (mr36 _ (List.mem_of_getElem? (i := 5) rfl)) (mr36 _ (List.mem_of_getElem? (i := 6) rfl)) (mr36 _ (List.mem_of_getElem? (i := 7) rfl)) (mr36 _ (List.mem_of_getElem? (i := 8) rfl)) (mr12 _ (List.mem_of_getElem? (i := 12) rfl)) (mr36 _ (List.mem_of_getElem? (i := 9) rfl)))) rfl rfl rfl (hN _ (List.mem_of_getElem? (i := 18) rfl)) (by decide +kernel) ⟨Nat.le_of_ble_eq_true rfl, Nat.le_of_ble_eq_true rfl⟩) (Wd.preV zo hA hZ hw hK m_r_1 o9 rfl) rfl rfl hl.1 rfl (lv_room (Nat.le_of_ble_eq_true rfl)) dX9_lastKeyToTry_4 ⟨Nat.le_of_ble_eq_true rfl, Nat.le_of_ble_eq_true rfl⟩) (fun x_2 L1 f1 H locs lx_2 ux_2 ex_2 hw => ?_)
    obtain ⟨rfl, rfl, ex_2⟩ := ex_2
    exact K4 x_2 lx_2 ux_2 ex_2 H locs hw
  · refine q_call_l hA hK hw (va_runU (As := []) (rest := []) ⟨hx, hb, hml, hown, hts⟩ (c_X3_cycle_f zo l D cy L0 f0 r_1 m_r_1 o9 hg kk nn ss vv ww (by have z9 := Option.some.inj (er_1.symm.trans er); rw [z9]; exact rk) _) (va_cwA 0 hts (gT (inU (mr36 _ (List.mem_of_getElem? (i := 5) rfl)) (mr36 _ (List.mem_of_getElem? (i := 6) rfl)) (mr36 _ (List.mem_of_getElem? (i := 10) rfl)) (mr36 _ (List.mem_of_getElem? (i := 11) rfl)) (mr12 _ (List.mem_of_getElem? (i := 18) rfl)) (mr36 _ (List.mem_of_getElem? (i := 12) rfl)))) rfl rfl rfl (hN _ (List.mem_of_getElem? (i := 18) rfl)) (by decide +kernel) ⟨Nat.le_of_ble_eq_true rfl, Nat.le_of_ble_eq_true rfl⟩) (Wd.preV zo hA hZ hw hK m_r_1 o9 rfl) rfl rfl hl.1 rfl (lv_room (Nat.le_of_ble_eq_true rfl)) dX9_lastKeyToTry_4 ⟨Nat.le_of_ble_eq_true rfl, Nat.le_of_ble_eq_true rfl⟩) (fun x_2 L1 f1 H locs lx_2 ux_2 ex_2 hw => ?_)
    obtain ⟨rfl, rfl, ex_2⟩ := ex_2
    exact K4 x_2 lx_2 ux_2 ex_2 H locs hw
  · refine q_call_l hA hK hw (va_runU (As := []) (rest := []) ⟨hx, hb, hml, hown, hts⟩ (c_X4_cycle_f zo l D cy L0 f0 r_1 m_r_1 o9 hg kk nn ss vv ww (by have z9 := Option.some.inj (er_1.symm.trans er); rw [z9]; exact rk) _) (va_cwA 0 hts (gT (inU (mr36 _ (List.mem_of_getElem? (i := 5) rfl)) (mr36 _ (List.mem_of_getElem? (i := 6) rfl)) (mr36 _ (List.mem_of_getElem? (i := 20) rfl)) (mr36 _ (List.mem_of_getElem? (i := 21) rfl)) (mr2 _ (List.mem_of_getElem? (i := 7) rfl)) (mr36 _ (List.mem_of_getElem? (i := 22) rfl)))) rfl rfl rfl (hN _ (List.mem_of_getElem? (i := 18) rfl)) (by decide +kernel) ⟨Nat.le_of_ble_eq_true rfl, Nat.le_of_ble_eq_true rfl⟩) (Wd.preV zo hA hZ hw hK m_r_1 o9 rfl) rfl rfl hl.1 rfl (lv_room (Nat.le_of_ble_eq_true rfl)) dX9_lastKeyToTry_4 ⟨Nat.le_of_ble_eq_true rfl, Nat.le_of_ble_eq_true rfl⟩) (fun x_2 L1 f1 H locs lx_2 ux_2 ex_2 hw => ?_)
    obtain ⟨rfl, rfl, ex_2⟩ := ex_2
    exact K4 x_2 lx_2 ux_2 ex_2 H locs hw
  · refine q_call_l hA hK hw (va_runU (As := []) (rest := []) ⟨hx, hb, hml, hown, hts⟩ (c_X8_cycle_f zo l D cy L0 f0 r_1 m_r_1 o9 hg kk nn ss vv ww (by have z9 := Option.some.inj (er_1.symm.trans er); rw [z9]; exact rk) _) (va_cwA 0 hts (gT (inU (mr36 _ (List.mem_of_getElem? (i := 5) rfl)) (mr36 _ (List.mem_of_getElem? (i := 6) rfl)) (mr36 _ (List.mem_of_getElem? (i := 23) rfl)) (mr37 _ (List.mem_of_getElem? (i := 0) rfl)) (mr12 _ (List.mem_of_getElem? (i := 15) rfl)) (mr37 _ (List.mem_of_getElem? (i := 1) rfl)))) rfl rfl rfl (hN _ (List.mem_of_getElem? (i := 18) rfl)) (by decide +kernel) ⟨Nat.le_of_ble_eq_true rfl, Nat.le_of_ble_eq_true rfl⟩) (Wd.preV zo hA hZ hw hK m_r_1 o9 rfl) rfl rfl hl.1 rfl (lv_room (Nat.le_of_ble_eq_true rfl)) dX9_lastKeyToTry_4 ⟨Nat.le_of_ble_eq_true rfl, Nat.le_of_ble_eq_true rfl⟩) (fun x_2 L1 f1 H locs lx_2 ux_2 ex_2 hw => ?_)
    obtain ⟨rfl, rfl, ex_2⟩ := ex_2
    exact K4 x_2 lx_2 ux_2 ex_2 H locs hw
set_option maxHeartbeats 4000000 in
set_option maxRecDepth 100000 in
theorem c_X9_ruledClash_o {Z : Zt} (zo : Zok Z) (l : Launch) (D : va_G) (cy : Cy) (L0 : List Nat) (f0 : Nat → va_E) (a0 : Nat) (a1 : Nat) (x2 : Int) (lx2 : -2147483648 ≤ x2) (ux2 : x2 ≤ 2147483647) (x3 : Int) (lx3 : -2147483648 ≤ x3) (ux3 : x3 ≤ 2147483647) (m_a0 : a0 ∈ L0) (o_a0 : Ob f0 a0 0) (m_a1 : a1 ∈ L0) (o_a1 : Ob f0 a1 0) (hg : GI cy L0 f0) (g : Int → Int) (p0 : Int) (O : Int → Int) (ba : BO f0 a0 g p0 O) (p1 : Int) (O1 : Int → Int) (bo : BO f0 a1 g p1 O1) (lw0 : g (p0 + 5) ≤ g (p0 + 10)) (lw1 : g (p1 + 5) ≤ g (p1 + 10)) (w0 : 0 ≤ x2) (w1 : x2 ≤ 52595999) : Ci Z l yX9_ruledClash (Cond.code yX9_ruledClash cX9_ruledClash 13 (some .int) :: TB) ({ frames := 6, cells := 0, slots := 0, locals := 140 } : Room) 0 0 D (tq cy) [.ref a0, .ref a1, .int (iI x2), .int (iI x3)] L0 f0 (fun (r : Int) (L1 : List Nat) (f1 : Nat → va_E) => L0 = L1 ∧ GI cy L0 f1 ∧ Eh cy f0 f1 ∧ (Bw (CC (Oc g p0 O) (g (p0 + 2)) (Oc g p1 O1) (g (p1 + 2)) x2) (RRS g p0 O p1 O1 x2) x3 r)) := by
  refine Ci.enter (cc := cX9_ruledClash) (n := 13) rfl (plainFor_of_name (by decide)) (Nat.le_of_ble_eq_true rfl) ?_
  intro p e s m below meth c ls A hx hb hr hts hown hlocks hnm hml hK hA hAe hw hZ hl
  have hown : s.vm.findClass RX9 = some m.cls := hown
  have hl : lv_has ls 13 [(0, .ref a0), (1, .ref a1), (2, .int (iI x2)), (3, .int (iI x3))] := hl
  have hN : ZN s := (zo.2.2.2.2 _ _ _ hZ).2
  have hE : Eh cy f0 f0 := Eh.refl cy f0
  refine lv_aload_n hx hb dX9_ruledClash_0 rfl (lv_at hl 0 rfl) ?_
  refine q_geti (ci := 0) (C := RX0) (T := TX0) (N := 15) hx hb hts (fun w h => List.mem_cons_of_mem _ (mfX00 w h)) hown hK hw m_a0 o_a0 rfl 9 (by decide) (hts _ (List.mem_cons_of_mem _ (mr35 _ (List.mem_of_getElem? (i := 18) rfl)))) (fun _ h => h) rfl dX9_ruledClash_1 (fun x_1 lx_1 ux_1 ex_1 => ?_)
  refine lv_aload_n hx hb dX9_ruledClash_4 rfl (lv_at hl 1 rfl) ?_
  refine q_geti (ci := 0) (C := RX0) (T := TX0) (N := 15) hx hb hts (fun w h => List.mem_cons_of_mem _ (mfX00 w h)) hown hK hw m_a1 o_a1 rfl 9 (by decide) (hts _ (List.mem_cons_of_mem _ (mr35 _ (List.mem_of_getElem? (i := 18) rfl)))) (fun _ h => h) rfl dX9_ruledClash_5 (fun x_2 lx_2 ux_2 ex_2 => ?_)
  have J16 : ∀ (w0_16 : Nat) (m_w0_16 : w0_16 ∈ L0) (o_w0_16 : Ob f0 w0_16 0) (k16 : (w0_16 = a0 ∧ fI f0 a0 9 ≤ fI f0 a1 9) ∨ (w0_16 = a1 ∧ fI f0 a1 9 < fI f0 a0 9)) (H : Heap) (locs : List Loc) (ls : Array Slot) (hw : Wd D A s.heap L0 f0 H locs) (hl : lv_has ls 13 [(0, .ref a0), (1, .ref a1), (2, .int (iI x2)), (3, .int (iI x3))]), W p l e ({ frames := 6, cells := 0, slots := 0, locals := 140 } : Room) s m ([.ref a0, .ref a1, .int (iI x2), .int (iI x3)] : List Value).toArray below meth c H locs (0) (0) (MQ below (Qi D (tq cy) L0 f0 s.heap.size (fun (r : Int) (L1 : List Nat) (f1 : Nat → va_E) => L0 = L1 ∧ GI cy L0 f1 ∧ Eh cy f0 f1 ∧ (Bw (CC (Oc g p0 O) (g (p0 + 2)) (Oc g p1 O1) (g (p1 + 2)) x2) (RRS g p0 O p1 O1 x2) x3 r))) ([.ref a0, .ref a1, .int (iI x2), .int (iI x3)] : List Value).toArray s 0 0 A) (F0 m 16 ls [.ref w0_16]) := by
    intro w0_16 m_w0_16 o_w0_16 k16 H locs ls hw hl
    refine lv_astore (lv' := [(4, .ref w0_16), (0, .ref a0), (1, .ref a1), (2, .int (iI x2)), (3, .int (iI x3))]) hx hb dX9_ruledClash_16 hl (by decide) rfl (fun ls hl => ?_)
    refine lv_aload_n hx hb dX9_ruledClash_18 rfl (lv_at hl 1 rfl) ?_
    refine q_geti (ci := 0) (C := RX0) (T := TX0) (N := 15) hx hb hts (fun w h => List.mem_cons_of_mem _ (mfX00 w h)) hown hK hw m_a0 o_a0 rfl 9 (by decide) (hts _ (List.mem_cons_of_mem _ (mr35 _ (List.mem_of_getElem? (i := 18) rfl)))) (fun _ h => h) rfl dX9_ruledClash_19 (fun x_3 lx_3 ux_3 ex_3 => ?_)
    refine lv_aload_n hx hb dX9_ruledClash_22 rfl (lv_at hl 2 rfl) ?_
    refine q_geti (ci := 0) (C := RX0) (T := TX0) (N := 15) hx hb hts (fun w h => List.mem_cons_of_mem _ (mfX00 w h)) hown hK hw m_a1 o_a1 rfl 9 (by decide) (hts _ (List.mem_cons_of_mem _ (mr35 _ (List.mem_of_getElem? (i := 18) rfl)))) (fun _ h => h) rfl dX9_ruledClash_23 (fun x_4 lx_4 ux_4 ex_4 => ?_)
    have J34 : ∀ (w0_34 : Nat) (m_w0_34 : w0_34 ∈ L0) (o_w0_34 : Ob f0 w0_34 0) (k34 : (w0_34 = a1 ∧ fI f0 a0 9 ≤ fI f0 a1 9) ∨ (w0_34 = a0 ∧ fI f0 a1 9 < fI f0 a0 9)) (H : Heap) (locs : List Loc) (ls : Array Slot) (hw : Wd D A s.heap L0 f0 H locs) (hl : lv_has ls 13 [(2, .int (iI x2)), (3, .int (iI x3)), (4, .ref w0_16)]), W p l e ({ frames := 6, cells := 0, slots := 0, locals := 140 } : Room) s m ([.ref a0, .ref a1, .int (iI x2), .int (iI x3)] : List Value).toArray below meth c H locs (0) (0) (MQ below (Qi D (tq cy) L0 f0 s.heap.size (fun (r : Int) (L1 : List Nat) (f1 : Nat → va_E) => L0 = L1 ∧ GI cy L0 f1 ∧ Eh cy f0 f1 ∧ (Bw (CC (Oc g p0 O) (g (p0 + 2)) (Oc g p1 O1) (g (p1 + 2)) x2) (RRS g p0 O p1 O1 x2) x3 r))) ([.ref a0, .ref a1, .int (iI x2), .int (iI x3)] : List Value).toArray s 0 0 A) (F0 m 34 ls [.ref w0_34]) := by
      intro w0_34 m_w0_34 o_w0_34 k34 H locs ls hw hl
      refine lv_astore (lv' := [(5, .ref w0_34), (2, .int (iI x2)), (3, .int (iI x3)), (4, .ref w0_16)]) hx hb dX9_ruledClash_34 hl (by decide) rfl (fun ls hl => ?_)
      obtain ⟨pf, pm, Of, Om, bf, bm, ⟨lwf, lwm⟩, sub9, sup9⟩ := fm_of (few := w0_16) (many := w0_34) (u := x2) ba bo lw0 lw1 (by omega)
      have nf := bf.2.2.2
      have nm := bm.2.2.2
      have hrf := bf.hr
      have hrm := bm.hr
      have bdm := bm.1.2.1
      have fkm := bd_fk bdm hrm
      have cf0 : 0 ≤ fI f0 w0_16 10 := (show 0 ≤ fI f0 w0_16 10 ∧ fI f0 w0_16 10 ≤ 16 from hg.1 _ m_w0_16 0 10 o_w0_16).1
      have cm0 : 0 ≤ fI f0 w0_34 10 := (show 0 ≤ fI f0 w0_34 10 ∧ fI f0 w0_34 10 ≤ 16 from hg.1 _ m_w0_34 0 10 o_w0_34).1
      refine lv_iload_n hx hb dX9_ruledClash_36 rfl (lv_at hl 2 rfl) ?_
      refine lv_istore (lv' := [(6, .int (iI x3)), (5, .ref w0_34), (2, .int (iI x2)), (3, .int (iI x3)), (4, .ref w0_16)]) hx hb dX9_ruledClash_37 hl (by decide) rfl (fun ls hl => ?_)
      refine lv_aload hx hb dX9_ruledClash_39 (lv_at hl 4 rfl) ?_
      refine lv_aload hx hb dX9_ruledClash_41 (lv_at hl 1 rfl) ?_
      refine lv_iload_n hx hb dX9_ruledClash_43 rfl (lv_at hl 2 rfl) ?_
      refine q_call_i hA hK hw (va_runS (As := [.ref w0_16, .ref w0_34, .int (iI x2)]) (rest := []) ⟨hx, hb, hml, hown, hts⟩ (c_X9_lastKeyToTry_o zo l D cy L0 f0 w0_16 w0_34 x2 lx2 ux2 m_w0_16 o_w0_16 m_w0_34 o_w0_34 hg g pf bf.1 Of bf.2.1 bf.2.2.1 (by have := bf.2.2.2; omega) (by have := bf.2.2.2; omega) pm bm.1 Om bm.2.1 bm.2.2.1 (by omega) (by omega) (by omega) (by omega) _) (va_cwS 3 hts (gT (inS (mr35 _ (List.mem_of_getElem? (i := 21) rfl)) (mr35 _ (List.mem_of_getElem? (i := 22) rfl)) (mr1 _ (List.mem_of_getElem? (i := 2) rfl)) (mr35 _ (List.mem_of_getElem? (i := 23) rfl)))) rfl rfl rfl (by decide +kernel) ⟨Nat.le_of_ble_eq_true rfl, Nat.le_of_ble_eq_true rfl⟩) (Wd.preS zo hA hZ hw hK) rfl rfl hl.1 rfl (lv_room (Nat.le_of_ble_eq_true rfl)) dX9_ruledClash_44 ⟨Nat.le_of_ble_eq_true rfl, Nat.le_of_ble_eq_true rfl⟩) (fun x_5 L1 f1 H locs lx_5 ux_5 ex_5 hw => ?_)
      obtain ⟨rfl, rfl, ex_5⟩ := ex_5
      have pl9 := pl_of bf bm (by omega) cf0 cm0 lwf lwm ex_5
      clear ex_5
      refine lv_istore (lv' := [(7, .int (iI x_5)), (6, .int (iI x3)), (5, .ref w0_34), (2, .int (iI x2)), (3, .int (iI x3)), (4, .ref w0_16)]) hx hb dX9_ruledClash_47 hl (by decide) rfl (fun ls hl => ?_)
      refine lv_aload hx hb dX9_ruledClash_49 (lv_at hl 5 rfl) ?_
      refine lv_iload_n hx hb dX9_ruledClash_51 rfl (lv_at hl 3 rfl) ?_
      refine q_sipush hx hb dX9_ruledClash_52 rfl ?_
      first | refine q_idiv hx hb dX9_ruledClash_55 ⟨lx2, ux2⟩ ⟨by decide, by decide⟩ (by omega) (by omega) (fun x_6 lx_6 ux_6 ex_6 => ?_) | refine q_idivw hx hb dX9_ruledClash_55 ⟨lx2, ux2⟩ ⟨by decide, by decide⟩ (by omega) (fun x_6 lx_6 ux_6 ex_6 => ?_)
      refine lv_aload hx hb dX9_ruledClash_56 (lv_at hl 2 rfl) ?_
      refine q_geti (ci := 0) (C := RX0) (T := TX0) (N := 15) hx hb hts (fun w h => List.mem_cons_of_mem _ (mfX00 w h)) hown hK hw m_w0_34 o_w0_34 rfl 7 (by decide) (hts _ (List.mem_cons_of_mem _ (mr35 _ (List.mem_of_getElem? (i := 19) rfl)))) (fun _ h => h) rfl dX9_ruledClash_58 (fun x_7 lx_7 ux_7 ex_7 => ?_)
      refine q_max hx hb (hml.trans hl.1.symm) hown (hts _ (List.mem_cons_of_mem _ (mr35 _ (List.mem_of_getElem? (i := 20) rfl)))) (hts _ (List.mem_cons_of_mem _ (mr13 _ (List.mem_of_getElem? (i := 0) rfl)))) (hts _ (List.mem_cons_of_mem _ (mr6 _ (List.mem_of_getElem? (i := 14) rfl)))) (hts _ (List.mem_cons_of_mem _ (mr13 _ (List.mem_of_getElem? (i := 1) rfl)))) (Nat.le_of_ble_eq_true rfl) (Nat.le_of_ble_eq_true rfl) (Nat.le_of_ble_eq_true rfl) (Nat.le_of_ble_eq_true rfl) ⟨lx_6, ux_6⟩ ⟨lx_7, ux_7⟩ dX9_ruledClash_61 (fun x_8 lx_8 ux_8 ex_8 => ?_)
      refine q_iconst hx hb dX9_ruledClash_64 ?_
      first | refine q_isub hx hb dX9_ruledClash_65 ⟨by omega, by omega⟩ (fun x_9 lx_9 ux_9 ex_9 => ?_) | refine q_isubw hx hb dX9_ruledClash_65 (fun x_9 lx_9 ux_9 _ => ?_)
      refine q_call_i hA hK hw (va_runV (As := [.int (iI x_9)]) (rest := []) ⟨hx, hb, hml, hown, hts⟩ (c_X0_keyFrom_g zo l D cy L0 f0 w0_16 x_9 lx_9 ux_9 m_w0_16 o_w0_16 hg g pf bf.1 _) (cwV 1 hts (gT (inV (mr24 _ (List.mem_of_getElem? (i := 12) rfl)) (mr24 _ (List.mem_of_getElem? (i := 13) rfl)) (mr24 _ (List.mem_of_getElem? (i := 14) rfl)) (mr2 _ (List.mem_of_getElem? (i := 9) rfl)) (mr24 _ (List.mem_of_getElem? (i := 15) rfl)))) rfl rfl rfl (by decide +kernel) ⟨Nat.le_of_ble_eq_true rfl, Nat.le_of_ble_eq_true rfl⟩) (Wd.preV zo hA hZ hw hK m_w0_16 o_w0_16 rfl) rfl rfl hl.1 rfl (lv_room (Nat.le_of_ble_eq_true rfl)) dX9_ruledClash_66 ⟨Nat.le_of_ble_eq_true rfl, Nat.le_of_ble_eq_true rfl⟩) (fun x_10 L1 f1 H locs lx_10 ux_10 ex_10 hw => ?_)
      obtain ⟨rfl, rfl, ex_10⟩ := ex_10
      have f66 : Fst (KG g pf) _ x_10 := ex_10
      have b66 := f66.kb hrf
      clear ex_10
      refine lv_istore (lv' := [(8, .int (iI x_10)), (7, .int (iI x_5)), (6, .int (iI x3)), (5, .ref w0_34), (2, .int (iI x2)), (3, .int (iI x3)), (4, .ref w0_16)]) hx hb dX9_ruledClash_69 hl (by decide) rfl (fun ls hl => ?_)
      refine q_iconst hx hb dX9_ruledClash_71 ?_
      refine lv_istore (lv' := [(9, .int (iI 0)), (8, .int (iI x_10)), (7, .int (iI x_5)), (6, .int (iI x3)), (5, .ref w0_34), (2, .int (iI x2)), (3, .int (iI x3)), (4, .ref w0_16)]) hx hb dX9_ruledClash_72 hl (by decide) rfl (fun ls hl => ?_)
      have J74 : ∀ (n74 : Nat) (y6_74 : Int) (ly6_74 : -2147483648 ≤ y6_74) (uy6_74 : y6_74 ≤ 2147483647) (y8_74 : Int) (ly8_74 : -2147483648 ≤ y8_74) (uy8_74 : y8_74 ≤ 2147483647) (y9_74 : Int) (ly9_74 : -2147483648 ≤ y9_74) (uy9_74 : y9_74 ≤ 2147483647) (L : List Nat) (fw74 : Nat → va_E) (hg : GI cy L0 fw74) (hE : Eh cy f0 fw74) (o_w0_16 : Ob fw74 w0_16 0) (o_w0_34 : Ob fw74 w0_34 0) (i1 : 0 ≤ y9_74) (kb : y8_74 = -1 ∨ (0 ≤ y8_74 ∧ y8_74 ≤ 36524)) (ri : RI (KG g pf) Of (g (pf + 1)) (g (pf + 2)) (KG g pm) Om (g (pm + 1)) (g (pm + 2)) x2 (CC (Oc g p0 O) (g (p0 + 2)) (Oc g p1 O1) (g (p1 + 2)) x2) x3 y8_74 y6_74 y9_74) (hn74 : ((2147483647 : Int) - y9_74).toNat < n74) (H : Heap) (locs : List Loc) (ls : Array Slot) (hw : Wd D A s.heap L0 fw74 H locs) (hl : lv_has ls 13 [(2, .int (iI x2)), (4, .ref w0_16), (5, .ref w0_34), (6, .int (iI y6_74)), (7, .int (iI x_5)), (8, .int (iI y8_74)), (9, .int (iI y9_74))]), W p l e ({ frames := 6, cells := 0, slots := 0, locals := 140 } : Room) s m ([.ref a0, .ref a1, .int (iI x2), .int (iI x3)] : List Value).toArray below meth c H locs (0 + 0 + 0) (0 + 0 + 0) (MQ below (Qi D (tq cy) L0 f0 s.heap.size (fun (r : Int) (L1 : List Nat) (f1 : Nat → va_E) => L0 = L1 ∧ GI cy L0 f1 ∧ Eh cy f0 f1 ∧ (Bw (CC (Oc g p0 O) (g (p0 + 2)) (Oc g p1 O1) (g (p1 + 2)) x2) (RRS g p0 O p1 O1 x2) x3 r))) ([.ref a0, .ref a1, .int (iI x2), .int (iI x3)] : List Value).toArray s 0 0 A) (F0 m 74 ls []) := by
        intro n74
        induction n74 with
        | zero => intro y6_74 ly6_74 uy6_74 y8_74 ly8_74 uy8_74 y9_74 ly9_74 uy9_74 L fw74 hg hE o_w0_16 o_w0_34 i1 kb ri hn74; exact absurd hn74 (Nat.not_lt_zero _)
        | succ n74 ih74 =>
          intro y6_74 ly6_74 uy6_74 y8_74 ly8_74 uy8_74 y9_74 ly9_74 uy9_74 L fw74 hg hE o_w0_16 o_w0_34 i1 kb ri hn74 H locs ls hw hl
          have bff := bf.eh hE
          have bmf := bm.eh hE
          have emf : fI fw74 w0_16 1 = g (pf + 1) := bff.1.1.1.2.1
          have emm : fI fw74 w0_34 1 = g (pm + 1) := bmf.1.1.1.2.1
          have elf : fI fw74 w0_16 2 = g (pf + 2) := bff.1.1.1.2.2.1
          have elm : fI fw74 w0_34 2 = g (pm + 2) := bmf.1.1.1.2.2.1
          refine lv_iload hx hb dX9_ruledClash_74 (lv_at hl 6 rfl) ?_
          refine q_ldc (n := 36524) hx hb hown (hts _ (List.mem_cons_of_mem _ (mr23 _ (List.mem_of_getElem? (i := 16) rfl)))) rfl dX9_ruledClash_76 ?_
          refine q_icmp_gt (tgt := 235) hx hb dX9_ruledClash_78 (by decide) ⟨ly9_74, uy9_74⟩ ⟨by decide, by decide⟩ (fun c78 => ?_) (fun c78 => ?_)
          · refine lv_iload hx hb dX9_ruledClash_235 (lv_at hl 3 rfl) ?_
            exact q_ret_i hx hb hr hlocks hK hAe hw ⟨ly6_74, uy6_74⟩ (Nat.le_of_ble_eq_true rfl) (Nat.le_of_ble_eq_true rfl) dX9_ruledClash_237 (by exact ⟨rfl, hg, hE, (RI.out ri hrf pl9 (by omega)).cg sup9⟩)
          · refine lv_iload hx hb dX9_ruledClash_81 (lv_at hl 5 rfl) ?_
            refine q_iconst hx hb dX9_ruledClash_83 ?_
            refine q_icmp_eq (tgt := 235) hx hb dX9_ruledClash_84 (by decide) ⟨ly8_74, uy8_74⟩ ⟨by decide, by decide⟩ (fun c84 => ?_) (fun c84 => ?_)
            · refine lv_iload hx hb dX9_ruledClash_235 (lv_at hl 3 rfl) ?_
              exact q_ret_i hx hb hr hlocks hK hAe hw ⟨ly6_74, uy6_74⟩ (Nat.le_of_ble_eq_true rfl) (Nat.le_of_ble_eq_true rfl) dX9_ruledClash_237 (by exact ⟨rfl, hg, hE, (RI.out ri hrf pl9 (by omega)).cg sup9⟩)
            · have kg74 : KG g pf y8_74 := (ri.1.resolve_left (by omega)).1
              refine lv_iload hx hb dX9_ruledClash_87 (lv_at hl 5 rfl) ?_
              refine lv_iload hx hb dX9_ruledClash_89 (lv_at hl 4 rfl) ?_
              refine q_icmp_gt (tgt := 235) hx hb dX9_ruledClash_91 (by decide) ⟨ly8_74, uy8_74⟩ ⟨lx_5, ux_5⟩ (fun c91 => ?_) (fun c91 => ?_)
              · refine lv_iload hx hb dX9_ruledClash_235 (lv_at hl 3 rfl) ?_
                exact q_ret_i hx hb hr hlocks hK hAe hw ⟨ly6_74, uy6_74⟩ (Nat.le_of_ble_eq_true rfl) (Nat.le_of_ble_eq_true rfl) dX9_ruledClash_237 (by exact ⟨rfl, hg, hE, (RI.out ri hrf pl9 (by omega)).cg sup9⟩)
              · refine lv_aload hx hb dX9_ruledClash_94 (lv_at hl 1 rfl) ?_
                refine lv_iload hx hb dX9_ruledClash_96 (lv_at hl 5 rfl) ?_
                refine q_call_i hA hK hw (va_runV (As := [.int (iI y8_74)]) (rest := []) ⟨hx, hb, hml, hown, hts⟩ (c_X0_timeOf_q zo l D cy L0 fw74 w0_16 y8_74 ly8_74 uy8_74 m_w0_16 o_w0_16 hg (by omega) (by omega) (by omega) (by omega) _) (cwV 1 hts (gT (inV (mr37 _ (List.mem_of_getElem? (i := 4) rfl)) (mr30 _ (List.mem_of_getElem? (i := 0) rfl)) (mr30 _ (List.mem_of_getElem? (i := 1) rfl)) (mr2 _ (List.mem_of_getElem? (i := 9) rfl)) (mr30 _ (List.mem_of_getElem? (i := 2) rfl)))) rfl rfl rfl (by decide +kernel) ⟨Nat.le_of_ble_eq_true rfl, Nat.le_of_ble_eq_true rfl⟩) (Wd.preV zo hA hZ hw hK m_w0_16 o_w0_16 rfl) rfl rfl hl.1 rfl (lv_room (Nat.le_of_ble_eq_true rfl)) dX9_ruledClash_98 ⟨Nat.le_of_ble_eq_true rfl, Nat.le_of_ble_eq_true rfl⟩) (fun x_11 L1 f1 H locs lx_11 ux_11 ex_11 hw => ?_)
                obtain ⟨rfl, rfl, ex_11⟩ := ex_11
                refine lv_iload hx hb dX9_ruledClash_101 (lv_at hl 3 rfl) ?_
                refine q_icmp_ge (tgt := 235) hx hb dX9_ruledClash_103 (by decide) ⟨lx_11, ux_11⟩ ⟨ly6_74, uy6_74⟩ (fun c103 => ?_) (fun c103 => ?_)
                · refine lv_iload hx hb dX9_ruledClash_235 (lv_at hl 3 rfl) ?_
                  exact q_ret_i hx hb hr hlocks hK hAe hw ⟨ly6_74, uy6_74⟩ (Nat.le_of_ble_eq_true rfl) (Nat.le_of_ble_eq_true rfl) dX9_ruledClash_237 (by exact ⟨rfl, hg, hE, (RI.out ri hrf pl9 (by omega)).cg sup9⟩)
                · refine lv_aload hx hb dX9_ruledClash_106 (lv_at hl 1 rfl) ?_
                  refine lv_iload hx hb dX9_ruledClash_108 (lv_at hl 5 rfl) ?_
                  refine q_call_i hA hK hw (va_runV (As := [.int (iI y8_74)]) (rest := []) ⟨hx, hb, hml, hown, hts⟩ (c_X0_timeOf_q zo l D cy L0 fw74 w0_16 y8_74 ly8_74 uy8_74 m_w0_16 o_w0_16 hg (by omega) (by omega) (by omega) (by omega) _) (cwV 1 hts (gT (inV (mr37 _ (List.mem_of_getElem? (i := 4) rfl)) (mr30 _ (List.mem_of_getElem? (i := 0) rfl)) (mr30 _ (List.mem_of_getElem? (i := 1) rfl)) (mr2 _ (List.mem_of_getElem? (i := 9) rfl)) (mr30 _ (List.mem_of_getElem? (i := 2) rfl)))) rfl rfl rfl (by decide +kernel) ⟨Nat.le_of_ble_eq_true rfl, Nat.le_of_ble_eq_true rfl⟩) (Wd.preV zo hA hZ hw hK m_w0_16 o_w0_16 rfl) rfl rfl hl.1 rfl (lv_room (Nat.le_of_ble_eq_true rfl)) dX9_ruledClash_110 ⟨Nat.le_of_ble_eq_true rfl, Nat.le_of_ble_eq_true rfl⟩) (fun x_12 L1 f1 H locs lx_12 ux_12 ex_12 hw => ?_)
                  obtain ⟨rfl, rfl, ex_12⟩ := ex_12
                  refine lv_istore (lv' := [(10, .int (iI x_12)), (2, .int (iI x2)), (4, .ref w0_16), (5, .ref w0_34), (6, .int (iI y6_74)), (7, .int (iI x_5)), (8, .int (iI y8_74)), (9, .int (iI y9_74))]) hx hb dX9_ruledClash_113 hl (by decide) rfl (fun ls hl => ?_)
                  refine lv_aload hx hb dX9_ruledClash_115 (lv_at hl 3 rfl) ?_
                  refine lv_aload hx hb dX9_ruledClash_117 (lv_at hl 3 rfl) ?_
                  refine lv_iload hx hb dX9_ruledClash_119 (lv_at hl 0 rfl) ?_
                  refine lv_aload hx hb dX9_ruledClash_121 (lv_at hl 3 rfl) ?_
                  refine q_geti (ci := 0) (C := RX0) (T := TX0) (N := 15) hx hb hts (fun w h => List.mem_cons_of_mem _ (mfX00 w h)) hown hK hw m_w0_34 o_w0_34 rfl 2 (by decide) (hts _ (List.mem_cons_of_mem _ (mr32 _ (List.mem_of_getElem? (i := 9) rfl)))) (fun _ h => h) rfl dX9_ruledClash_123 (fun x_13 lx_13 ux_13 ex_13 => ?_)
                  first | refine q_isub hx hb dX9_ruledClash_126 ⟨by omega, by omega⟩ (fun x_14 lx_14 ux_14 ex_14 => ?_) | refine q_isubw hx hb dX9_ruledClash_126 (fun x_14 lx_14 ux_14 _ => ?_)
                  refine q_iconst hx hb dX9_ruledClash_127 ?_
                  first | refine q_iadd hx hb dX9_ruledClash_128 ⟨by omega, by omega⟩ (fun x_15 lx_15 ux_15 ex_15 => ?_) | refine q_iaddw hx hb dX9_ruledClash_128 (fun x_15 lx_15 ux_15 _ => ?_)
                  refine q_call_i hA hK hw (va_runV (As := [.int (iI x_15)]) (rest := [.ref w0_34]) ⟨hx, hb, hml, hown, hts⟩ (c_X0_ruledFrom_q zo l D cy L0 fw74 w0_34 x_15 lx_15 ux_15 m_w0_34 o_w0_34 hg (by omega) (by omega) (by omega) (by omega) _) (cwV 1 hts (gT (inV (mr37 _ (List.mem_of_getElem? (i := 5) rfl)) (mr29 _ (List.mem_of_getElem? (i := 15) rfl)) (mr29 _ (List.mem_of_getElem? (i := 16) rfl)) (mr2 _ (List.mem_of_getElem? (i := 9) rfl)) (mr29 _ (List.mem_of_getElem? (i := 17) rfl)))) rfl rfl rfl (by decide +kernel) ⟨Nat.le_of_ble_eq_true rfl, Nat.le_of_ble_eq_true rfl⟩) (Wd.preV zo hA hZ hw hK m_w0_34 o_w0_34 rfl) rfl rfl hl.1 rfl (lv_room (Nat.le_of_ble_eq_true rfl)) dX9_ruledClash_129 ⟨Nat.le_of_ble_eq_true rfl, Nat.le_of_ble_eq_true rfl⟩) (fun x_16 L1 f1 H locs lx_16 ux_16 ex_16 hw => ?_)
                  obtain ⟨rfl, rfl, ex_16⟩ := ex_16
                  refine q_call_i hA hK hw (va_runV (As := [.int (iI x_16)]) (rest := []) ⟨hx, hb, hml, hown, hts⟩ (c_X0_keyFrom_g zo l D cy L0 fw74 w0_34 x_16 lx_16 ux_16 m_w0_34 o_w0_34 hg g pm bmf.1 _) (cwV 1 hts (gT (inV (mr24 _ (List.mem_of_getElem? (i := 12) rfl)) (mr24 _ (List.mem_of_getElem? (i := 13) rfl)) (mr24 _ (List.mem_of_getElem? (i := 14) rfl)) (mr2 _ (List.mem_of_getElem? (i := 9) rfl)) (mr24 _ (List.mem_of_getElem? (i := 15) rfl)))) rfl rfl rfl (by decide +kernel) ⟨Nat.le_of_ble_eq_true rfl, Nat.le_of_ble_eq_true rfl⟩) (Wd.preV zo hA hZ hw hK m_w0_34 o_w0_34 rfl) rfl rfl hl.1 rfl (lv_room (Nat.le_of_ble_eq_true rfl)) dX9_ruledClash_132 ⟨Nat.le_of_ble_eq_true rfl, Nat.le_of_ble_eq_true rfl⟩) (fun x_17 L1 f1 H locs lx_17 ux_17 ex_17 hw => ?_)
                  obtain ⟨rfl, rfl, ex_17⟩ := ex_17
                  have f132 : Fst (KG g pm) _ x_17 := ex_17
                  have b132 := f132.kb hrm
                  clear ex_17
                  refine lv_istore (lv' := [(11, .int (iI x_17)), (10, .int (iI x_12)), (2, .int (iI x2)), (4, .ref w0_16), (5, .ref w0_34), (6, .int (iI y6_74)), (7, .int (iI x_5)), (8, .int (iI y8_74)), (9, .int (iI y9_74))]) hx hb dX9_ruledClash_135 hl (by decide) rfl (fun ls hl => ?_)
                  refine lv_iload hx hb dX9_ruledClash_137 (lv_at hl 0 rfl) ?_
                  refine q_iconst hx hb dX9_ruledClash_139 ?_
                  refine q_icmp_ne (tgt := 146) hx hb dX9_ruledClash_140 (by decide) ⟨lx_17, ux_17⟩ ⟨by decide, by decide⟩ (fun c140 => ?_) (fun c140 => ?_)
                  · refine lv_aload hx hb dX9_ruledClash_146 (lv_at hl 3 rfl) ?_
                    refine lv_aload hx hb dX9_ruledClash_148 (lv_at hl 4 rfl) ?_
                    refine lv_iload hx hb dX9_ruledClash_150 (lv_at hl 0 rfl) ?_
                    refine q_call_i hA hK hw (va_runV (As := [.int (iI x_17)]) (rest := [.ref w0_16]) ⟨hx, hb, hml, hown, hts⟩ (c_X0_timeOf_q zo l D cy L0 fw74 w0_34 x_17 lx_17 ux_17 m_w0_34 o_w0_34 hg (by omega) (by omega) (by omega) (by omega) _) (cwV 1 hts (gT (inV (mr37 _ (List.mem_of_getElem? (i := 4) rfl)) (mr30 _ (List.mem_of_getElem? (i := 0) rfl)) (mr30 _ (List.mem_of_getElem? (i := 1) rfl)) (mr2 _ (List.mem_of_getElem? (i := 9) rfl)) (mr30 _ (List.mem_of_getElem? (i := 2) rfl)))) rfl rfl rfl (by decide +kernel) ⟨Nat.le_of_ble_eq_true rfl, Nat.le_of_ble_eq_true rfl⟩) (Wd.preV zo hA hZ hw hK m_w0_34 o_w0_34 rfl) rfl rfl hl.1 rfl (lv_room (Nat.le_of_ble_eq_true rfl)) dX9_ruledClash_152 ⟨Nat.le_of_ble_eq_true rfl, Nat.le_of_ble_eq_true rfl⟩) (fun x_18 L1 f1 H locs lx_18 ux_18 ex_18 hw => ?_)
                    obtain ⟨rfl, rfl, ex_18⟩ := ex_18
                    refine lv_aload hx hb dX9_ruledClash_155 (lv_at hl 3 rfl) ?_
                    refine q_geti (ci := 0) (C := RX0) (T := TX0) (N := 15) hx hb hts (fun w h => List.mem_cons_of_mem _ (mfX00 w h)) hown hK hw m_w0_16 o_w0_16 rfl 2 (by decide) (hts _ (List.mem_cons_of_mem _ (mr32 _ (List.mem_of_getElem? (i := 9) rfl)))) (fun _ h => h) rfl dX9_ruledClash_157 (fun x_19 lx_19 ux_19 ex_19 => ?_)
                    first | refine q_isub hx hb dX9_ruledClash_160 ⟨by omega, by omega⟩ (fun x_20 lx_20 ux_20 ex_20 => ?_) | refine q_isubw hx hb dX9_ruledClash_160 (fun x_20 lx_20 ux_20 _ => ?_)
                    refine q_iconst hx hb dX9_ruledClash_161 ?_
                    first | refine q_iadd hx hb dX9_ruledClash_162 ⟨by omega, by omega⟩ (fun x_21 lx_21 ux_21 ex_21 => ?_) | refine q_iaddw hx hb dX9_ruledClash_162 (fun x_21 lx_21 ux_21 _ => ?_)
                    refine q_call_i hA hK hw (va_runV (As := [.int (iI x_21)]) (rest := []) ⟨hx, hb, hml, hown, hts⟩ (c_X0_ruledFrom_q zo l D cy L0 fw74 w0_16 x_21 lx_21 ux_21 m_w0_16 o_w0_16 hg (by omega) (by omega) (by omega) (by omega) _) (cwV 1 hts (gT (inV (mr37 _ (List.mem_of_getElem? (i := 5) rfl)) (mr29 _ (List.mem_of_getElem? (i := 15) rfl)) (mr29 _ (List.mem_of_getElem? (i := 16) rfl)) (mr2 _ (List.mem_of_getElem? (i := 9) rfl)) (mr29 _ (List.mem_of_getElem? (i := 17) rfl)))) rfl rfl rfl (by decide +kernel) ⟨Nat.le_of_ble_eq_true rfl, Nat.le_of_ble_eq_true rfl⟩) (Wd.preV zo hA hZ hw hK m_w0_16 o_w0_16 rfl) rfl rfl hl.1 rfl (lv_room (Nat.le_of_ble_eq_true rfl)) dX9_ruledClash_163 ⟨Nat.le_of_ble_eq_true rfl, Nat.le_of_ble_eq_true rfl⟩) (fun x_22 L1 f1 H locs lx_22 ux_22 ex_22 hw => ?_)
                    obtain ⟨rfl, rfl, ex_22⟩ := ex_22
                    have sk9 := ri_skip (K := KG g pf) (O := Of) (O' := Om) (M := g (pf + 1)) (l := g (pf + 2)) (M' := g (pm + 1)) (l' := g (pm + 2)) (u := x2) (key := y8_74) (b := x_22) f132 (by omega) (by omega) hrm (by omega)
                    refine lv_istore (lv' := [(12, .int (iI x_22)), (11, .int (iI x_17)), (10, .int (iI x_12)), (2, .int (iI x2)), (4, .ref w0_16), (5, .ref w0_34), (6, .int (iI y6_74)), (7, .int (iI x_5)), (8, .int (iI y8_74)), (9, .int (iI y9_74))]) hx hb dX9_ruledClash_166 hl (by decide) rfl (fun ls hl => ?_)
                    refine lv_iload hx hb dX9_ruledClash_168 (lv_at hl 0 rfl) ?_
                    refine lv_iload hx hb dX9_ruledClash_170 (lv_at hl 8 rfl) ?_
                    have J229 : ∀ (z6_229 : Int) (lz6_229 : -2147483648 ≤ z6_229) (uz6_229 : z6_229 ≤ 2147483647) (z8_229 : Int) (lz8_229 : -2147483648 ≤ z8_229) (uz8_229 : z8_229 ≤ 2147483647) (L : List Nat) (fw229 : Nat → va_E) (hg : GI cy L0 fw229) (hE : Eh cy f0 fw229) (o_w0_16 : Ob fw229 w0_16 0) (o_w0_34 : Ob fw229 w0_34 0) (k8 : z8_229 = -1 ∨ (0 ≤ z8_229 ∧ z8_229 ≤ 36524)) (ri1 : RI (KG g pf) Of (g (pf + 1)) (g (pf + 2)) (KG g pm) Om (g (pm + 1)) (g (pm + 2)) x2 (CC (Oc g p0 O) (g (p0 + 2)) (Oc g p1 O1) (g (p1 + 2)) x2) x3 z8_229 z6_229 (y9_74 + 1)) (H : Heap) (locs : List Loc) (ls : Array Slot) (hw : Wd D A s.heap L0 fw229 H locs) (hl : lv_has ls 13 [(2, .int (iI x2)), (4, .ref w0_16), (5, .ref w0_34), (6, .int (iI z6_229)), (7, .int (iI x_5)), (8, .int (iI z8_229)), (9, .int (iI y9_74))]), W p l e ({ frames := 6, cells := 0, slots := 0, locals := 140 } : Room) s m ([.ref a0, .ref a1, .int (iI x2), .int (iI x3)] : List Value).toArray below meth c H locs (0 + 0 + 0 + 0 + 0 + 0 + 0 + 0 + 0) (0 + 0 + 0 + 0 + 0 + 0 + 0 + 0 + 0) (MQ below (Qi D (tq cy) L0 f0 s.heap.size (fun (r : Int) (L1 : List Nat) (f1 : Nat → va_E) => L0 = L1 ∧ GI cy L0 f1 ∧ Eh cy f0 f1 ∧ (Bw (CC (Oc g p0 O) (g (p0 + 2)) (Oc g p1 O1) (g (p1 + 2)) x2) (RRS g p0 O p1 O1 x2) x3 r))) ([.ref a0, .ref a1, .int (iI x2), .int (iI x3)] : List Value).toArray s 0 0 A) (F0 m 229 ls []) := by
                      intro z6_229 lz6_229 uz6_229 z8_229 lz8_229 uz8_229 L fw229 hg hE o_w0_16 o_w0_34 k8 ri1 H locs ls hw hl
                      obtain ⟨x_23, lx_23, ux_23, hx_23, ex_23⟩ := q_inc y9_74 (1)
                      try (replace ex_23 : x_23 = y9_74 + (1) := by omega)
                      refine lv_iinc (v := iI x_23) (lv' := [(9, .int (iI x_23)), (2, .int (iI x2)), (4, .ref w0_16), (5, .ref w0_34), (6, .int (iI z6_229)), (7, .int (iI x_5)), (8, .int (iI z8_229))]) hx hb dX9_ruledClash_229 hl (k := 6) rfl hx_23 (by decide) rfl (fun ls hl => ?_)
                      refine lv_goto (tgt := 74) hx hb dX9_ruledClash_232 (by decide) ?_
                      exact ih74 z6_229 lz6_229 uz6_229 z8_229 lz8_229 uz8_229 x_23 lx_23 ux_23 L0 fw229 hg hE o_w0_16 o_w0_34 (by omega) (by omega) (by first | exact RI.start f66 (by omega) hrf bdm (by omega) (by omega) (by omega) (by omega) (by omega) (by omega) (by omega) (by omega) rfl rfl | exact RI.to ri1 (by omega) | fail "none") (by omega) _ _ _ hw (lv_sub hl [1, 2, 3, 4, 5, 6, 0] rfl)
                    refine q_icmp_le (tgt := 187) hx hb dX9_ruledClash_172 (by decide) ⟨lx_22, ux_22⟩ ⟨ly8_74, uy8_74⟩ (fun c172 => ?_) (fun c172 => ?_)
                    · refine lv_aload hx hb dX9_ruledClash_187 (lv_at hl 4 rfl) ?_
                      refine lv_iload hx hb dX9_ruledClash_189 (lv_at hl 8 rfl) ?_
                      refine q_call_i hA hK hw (va_runV (As := [.int (iI y8_74)]) (rest := []) ⟨hx, hb, hml, hown, hts⟩ (c_X0_changeOf_o zo l D cy L0 fw74 w0_16 y8_74 ly8_74 uy8_74 m_w0_16 o_w0_16 hg Of bff.2.1 _) (cwV 1 hts (gT (inV (mr37 _ (List.mem_of_getElem? (i := 6) rfl)) (mr26 _ (List.mem_of_getElem? (i := 16) rfl)) (mr26 _ (List.mem_of_getElem? (i := 17) rfl)) (mr2 _ (List.mem_of_getElem? (i := 9) rfl)) (mr26 _ (List.mem_of_getElem? (i := 18) rfl)))) rfl rfl rfl (by decide +kernel) ⟨Nat.le_of_ble_eq_true rfl, Nat.le_of_ble_eq_true rfl⟩) (Wd.preV zo hA hZ hw hK m_w0_16 o_w0_16 rfl) rfl rfl hl.1 rfl (lv_room (Nat.le_of_ble_eq_true rfl)) dX9_ruledClash_191 ⟨Nat.le_of_ble_eq_true rfl, Nat.le_of_ble_eq_true rfl⟩) (fun x_24 L1 f1 H locs lx_24 ux_24 ex_24 hw => ?_)
                      obtain ⟨rfl, rfl, ex_24⟩ := ex_24
                      have h191 := ex_24
                      refine q_iconst hx hb dX9_ruledClash_194 ?_
                      have J218 : ∀ (z6_218 : Int) (lz6_218 : -2147483648 ≤ z6_218) (uz6_218 : z6_218 ≤ 2147483647) (L : List Nat) (fw218 : Nat → va_E) (hg : GI cy L0 fw218) (hE : Eh cy f0 fw218) (o_w0_16 : Ob fw218 w0_16 0) (o_w0_34 : Ob fw218 w0_34 0) (bw : Bw (CC (Oc g p0 O) (g (p0 + 2)) (Oc g p1 O1) (g (p1 + 2)) x2) (fun x => ∃ k j : Int, RRc (KG g pf) Of (g (pf + 1)) (g (pf + 2)) (KG g pm) Om (g (pm + 1)) (g (pm + 2)) x2 k j x ∧ (k < y8_74 ∨ k = y8_74)) x3 z6_218) (H : Heap) (locs : List Loc) (ls : Array Slot) (hw : Wd D A s.heap L0 fw218 H locs) (hl : lv_has ls 13 [(2, .int (iI x2)), (4, .ref w0_16), (5, .ref w0_34), (6, .int (iI z6_218)), (7, .int (iI x_5)), (8, .int (iI y8_74)), (9, .int (iI y9_74))]), W p l e ({ frames := 6, cells := 0, slots := 0, locals := 140 } : Room) s m ([.ref a0, .ref a1, .int (iI x2), .int (iI x3)] : List Value).toArray below meth c H locs (0 + 0 + 0 + 0 + 0 + 0 + 0 + 0 + 0 + 0) (0 + 0 + 0 + 0 + 0 + 0 + 0 + 0 + 0 + 0) (MQ below (Qi D (tq cy) L0 f0 s.heap.size (fun (r : Int) (L1 : List Nat) (f1 : Nat → va_E) => L0 = L1 ∧ GI cy L0 f1 ∧ Eh cy f0 f1 ∧ (Bw (CC (Oc g p0 O) (g (p0 + 2)) (Oc g p1 O1) (g (p1 + 2)) x2) (RRS g p0 O p1 O1 x2) x3 r))) ([.ref a0, .ref a1, .int (iI x2), .int (iI x3)] : List Value).toArray s 0 0 A) (F0 m 218 ls []) := by
                        intro z6_218 lz6_218 uz6_218 L fw218 hg hE o_w0_16 o_w0_34 bw H locs ls hw hl
                        have bfg := bf.eh hE
                        refine lv_aload hx hb dX9_ruledClash_218 (lv_at hl 1 rfl) ?_
                        refine lv_iload hx hb dX9_ruledClash_220 (lv_at hl 5 rfl) ?_
                        refine q_iconst hx hb dX9_ruledClash_222 ?_
                        first | refine q_iadd hx hb dX9_ruledClash_223 ⟨by omega, by omega⟩ (fun x_25 lx_25 ux_25 ex_25 => ?_) | refine q_iaddw hx hb dX9_ruledClash_223 (fun x_25 lx_25 ux_25 _ => ?_)
                        refine q_call_i hA hK hw (va_runV (As := [.int (iI x_25)]) (rest := []) ⟨hx, hb, hml, hown, hts⟩ (c_X0_keyFrom_g zo l D cy L0 fw218 w0_16 x_25 lx_25 ux_25 m_w0_16 o_w0_16 hg g pf bfg.1 _) (cwV 1 hts (gT (inV (mr24 _ (List.mem_of_getElem? (i := 12) rfl)) (mr24 _ (List.mem_of_getElem? (i := 13) rfl)) (mr24 _ (List.mem_of_getElem? (i := 14) rfl)) (mr2 _ (List.mem_of_getElem? (i := 9) rfl)) (mr24 _ (List.mem_of_getElem? (i := 15) rfl)))) rfl rfl rfl (by decide +kernel) ⟨Nat.le_of_ble_eq_true rfl, Nat.le_of_ble_eq_true rfl⟩) (Wd.preV zo hA hZ hw hK m_w0_16 o_w0_16 rfl) rfl rfl hl.1 rfl (lv_room (Nat.le_of_ble_eq_true rfl)) dX9_ruledClash_224 ⟨Nat.le_of_ble_eq_true rfl, Nat.le_of_ble_eq_true rfl⟩) (fun x_26 L1 f1 H locs lx_26 ux_26 ex_26 hw => ?_)
                        obtain ⟨rfl, rfl, ex_26⟩ := ex_26
                        have f224 : Fst (KG g pf) _ x_26 := ex_26
                        have b224 := f224.kb hrf
                        clear ex_26
                        refine lv_istore (lv' := [(8, .int (iI x_26)), (2, .int (iI x2)), (4, .ref w0_16), (5, .ref w0_34), (6, .int (iI z6_218)), (7, .int (iI x_5)), (9, .int (iI y9_74))]) hx hb dX9_ruledClash_227 hl (by decide) rfl (fun ls hl => ?_)
                        exact J229 z6_218 lz6_218 uz6_218 x_26 lx_26 ux_26 L0 fw218 hg hE o_w0_16 o_w0_34 (by omega) (by first | exact RI.go ri (by omega) f224 (by omega) hrf rfl bw (fun k j x z q => by omega) | exact RI.go ri (by omega) f179 (by omega) hrf rfl (RI.bw ri (by omega) (fun j x z => by have := sk9 _ j x z (by omega); omega)) (fun k j x z q => sk9 k j x z (by omega)) | fail "none") _ _ _ hw (lv_sub hl [1, 2, 3, 4, 5, 0, 6] rfl)
                      refine q_icmp_ne (tgt := 218) hx hb dX9_ruledClash_195 (by decide) ⟨lx_24, ux_24⟩ ⟨by decide, by decide⟩ (fun c195 => ?_) (fun c195 => ?_)
                      · exact J218 y6_74 ly6_74 uy6_74 L0 fw74 hg hE o_w0_16 o_w0_34 (by first | exact RI.add ri (by omega) h210 (by omega) (by omega) (fun x z => sub9 x ⟨_, y8_74, oc_at kg74 (h191.resolve_right (fun z => by omega)).2 rfl, z⟩) (fun j h1 h2 => oc_at h1 h2 rfl) | exact RI.bw ri (by omega) (fun j x z => (ch_in h191 (by omega)).2.2.2 z.1.2) | fail "none") _ _ _ hw (lv_sub hl [3, 4, 5, 6, 7, 8, 9] rfl)
                      · refine lv_iload hx hb dX9_ruledClash_198 (lv_at hl 6 rfl) ?_
                        refine lv_aload hx hb dX9_ruledClash_200 (lv_at hl 5 rfl) ?_
                        refine lv_iload hx hb dX9_ruledClash_202 (lv_at hl 2 rfl) ?_
                        refine lv_aload hx hb dX9_ruledClash_204 (lv_at hl 4 rfl) ?_
                        refine q_geti (ci := 0) (C := RX0) (T := TX0) (N := 15) hx hb hts (fun w h => List.mem_cons_of_mem _ (mfX00 w h)) hown hK hw m_w0_16 o_w0_16 rfl 2 (by decide) (hts _ (List.mem_cons_of_mem _ (mr32 _ (List.mem_of_getElem? (i := 9) rfl)))) (fun _ h => h) rfl dX9_ruledClash_206 (fun x_27 lx_27 ux_27 ex_27 => ?_)
                        refine lv_iload_n hx hb dX9_ruledClash_209 rfl (lv_at hl 3 rfl) ?_
                        refine q_call_i hA hK hw (va_runV (As := [.int (iI x_12), .int (iI x_27), .int (iI x2)]) (rest := [.int (iI y6_74)]) ⟨hx, hb, hml, hown, hts⟩ (c_X0_meet_o zo l D cy L0 fw74 w0_34 x_12 lx_12 ux_12 x_27 lx_27 ux_27 x2 lx2 ux2 m_w0_34 o_w0_34 hg g pm bmf.1 Om bmf.2.1 bmf.2.2.1 (by have := bmf.2.2.2; omega) (by have := bmf.2.2.2; omega) (by have := bmf.2.2.2; omega) (by have := bmf.2.2.2; omega) (by omega) (by omega) (by omega) (by omega) (by omega) (by omega) _) (cwV 3 hts (gT (inV (mr35 _ (List.mem_of_getElem? (i := 8) rfl)) (mr35 _ (List.mem_of_getElem? (i := 9) rfl)) (mr35 _ (List.mem_of_getElem? (i := 10) rfl)) (mr2 _ (List.mem_of_getElem? (i := 9) rfl)) (mr35 _ (List.mem_of_getElem? (i := 11) rfl)))) rfl rfl rfl (by decide +kernel) ⟨Nat.le_of_ble_eq_true rfl, Nat.le_of_ble_eq_true rfl⟩) (Wd.preV zo hA hZ hw hK m_w0_34 o_w0_34 rfl) rfl rfl hl.1 rfl (lv_room (Nat.le_of_ble_eq_true rfl)) dX9_ruledClash_210 ⟨Nat.le_of_ble_eq_true rfl, Nat.le_of_ble_eq_true rfl⟩) (fun x_28 L1 f_29 H locs lx_28 ux_28 ex_28 hw => ?_)
                        obtain ⟨rfl, hg, hX, ex_28⟩ := ex_28
                        have hE := hE.trans hX
                        have o_w0_16 := hX.1.1.1 _ _ o_w0_16
                        have o_w0_34 := hX.1.1.1 _ _ o_w0_34
                        have h210 : Mn (CL (Oc g pm Om) (g (pm + 2)) (1440 * y8_74 + g (pf + 1)) (g (pf + 2)) x2) x_28 := Mn.cl ex_28 (by omega) (by omega)
                        clear ex_28
                        refine q_min hx hb (hml.trans hl.1.symm) hown (hts _ (List.mem_cons_of_mem _ (mr35 _ (List.mem_of_getElem? (i := 7) rfl)))) (hts _ (List.mem_cons_of_mem _ (mr6 _ (List.mem_of_getElem? (i := 13) rfl)))) (hts _ (List.mem_cons_of_mem _ (mr6 _ (List.mem_of_getElem? (i := 14) rfl)))) (hts _ (List.mem_cons_of_mem _ (mr6 _ (List.mem_of_getElem? (i := 15) rfl)))) (Nat.le_of_ble_eq_true rfl) (Nat.le_of_ble_eq_true rfl) (Nat.le_of_ble_eq_true rfl) (Nat.le_of_ble_eq_true rfl) ⟨ly6_74, uy6_74⟩ ⟨lx_28, ux_28⟩ dX9_ruledClash_213 (fun x_30 lx_30 ux_30 ex_30 => ?_)
                        refine lv_istore (lv' := [(6, .int (iI x_30)), (12, .int (iI x_22)), (11, .int (iI x_17)), (10, .int (iI x_12)), (2, .int (iI x2)), (4, .ref w0_16), (5, .ref w0_34), (7, .int (iI x_5)), (8, .int (iI y8_74)), (9, .int (iI y9_74))]) hx hb dX9_ruledClash_216 hl (by decide) rfl (fun ls hl => ?_)
                        exact J218 x_30 lx_30 ux_30 L0 f_29 hg hE o_w0_16 o_w0_34 (by first | exact RI.add ri (by omega) h210 (by omega) (by omega) (fun x z => sub9 x ⟨_, y8_74, oc_at kg74 (h191.resolve_right (fun z => by omega)).2 rfl, z⟩) (fun j h1 h2 => oc_at h1 h2 rfl) | exact RI.bw ri (by omega) (fun j x z => (ch_in h191 (by omega)).2.2.2 z.1.2) | fail "none") _ _ _ hw (lv_sub hl [4, 5, 6, 0, 7, 8, 9] rfl)
                    · refine lv_aload hx hb dX9_ruledClash_175 (lv_at hl 4 rfl) ?_
                      refine lv_iload hx hb dX9_ruledClash_177 (lv_at hl 0 rfl) ?_
                      refine q_call_i hA hK hw (va_runV (As := [.int (iI x_22)]) (rest := []) ⟨hx, hb, hml, hown, hts⟩ (c_X0_keyFrom_g zo l D cy L0 fw74 w0_16 x_22 lx_22 ux_22 m_w0_16 o_w0_16 hg g pf bff.1 _) (cwV 1 hts (gT (inV (mr24 _ (List.mem_of_getElem? (i := 12) rfl)) (mr24 _ (List.mem_of_getElem? (i := 13) rfl)) (mr24 _ (List.mem_of_getElem? (i := 14) rfl)) (mr2 _ (List.mem_of_getElem? (i := 9) rfl)) (mr24 _ (List.mem_of_getElem? (i := 15) rfl)))) rfl rfl rfl (by decide +kernel) ⟨Nat.le_of_ble_eq_true rfl, Nat.le_of_ble_eq_true rfl⟩) (Wd.preV zo hA hZ hw hK m_w0_16 o_w0_16 rfl) rfl rfl hl.1 rfl (lv_room (Nat.le_of_ble_eq_true rfl)) dX9_ruledClash_179 ⟨Nat.le_of_ble_eq_true rfl, Nat.le_of_ble_eq_true rfl⟩) (fun x_31 L1 f1 H locs lx_31 ux_31 ex_31 hw => ?_)
                      obtain ⟨rfl, rfl, ex_31⟩ := ex_31
                      have f179 : Fst (KG g pf) _ x_31 := ex_31
                      have b179 := f179.kb hrf
                      clear ex_31
                      refine lv_istore (lv' := [(8, .int (iI x_31)), (12, .int (iI x_22)), (11, .int (iI x_17)), (10, .int (iI x_12)), (2, .int (iI x2)), (4, .ref w0_16), (5, .ref w0_34), (6, .int (iI y6_74)), (7, .int (iI x_5)), (9, .int (iI y9_74))]) hx hb dX9_ruledClash_182 hl (by decide) rfl (fun ls hl => ?_)
                      refine lv_goto (tgt := 229) hx hb dX9_ruledClash_184 (by decide) ?_
                      exact J229 y6_74 ly6_74 uy6_74 x_31 lx_31 ux_31 L0 fw74 hg hE o_w0_16 o_w0_34 (by omega) (by first | exact RI.go ri (by omega) f224 (by omega) hrf rfl bw (fun k j x z q => by omega) | exact RI.go ri (by omega) f179 (by omega) hrf rfl (RI.bw ri (by omega) (fun j x z => by have := sk9 _ j x z (by omega); omega)) (fun k j x z q => sk9 k j x z (by omega)) | fail "none") _ _ _ hw (lv_sub hl [4, 5, 6, 7, 8, 0, 9] rfl)
                  · refine lv_iload hx hb dX9_ruledClash_143 (lv_at hl 5 rfl) ?_
                    exact q_ret_i hx hb hr hlocks hK hAe hw ⟨ly6_74, uy6_74⟩ (Nat.le_of_ble_eq_true rfl) (Nat.le_of_ble_eq_true rfl) dX9_ruledClash_145 (by exact ⟨rfl, hg, hE, (RI.none ri (by omega) (f132.m1 (by omega)) (by omega) hrm).cg sup9⟩)
      exact J74 ((((2147483647 : Int) - 0).toNat) + 1) x3 lx3 ux3 x_10 lx_10 ux_10 0 (by decide) (by decide) L0 f0 hg hE o_w0_16 o_w0_34 (by omega) (by omega) (by first | exact RI.start f66 (by omega) hrf bdm (by omega) (by omega) (by omega) (by omega) (by omega) (by omega) (by omega) (by omega) rfl rfl | exact RI.to ri1 (by omega) | fail "none") (by omega) _ _ _ hw (lv_sub hl [5, 7, 4, 3, 2, 1, 0] rfl)
    refine q_icmp_gt (tgt := 33) hx hb dX9_ruledClash_26 (by decide) ⟨lx_3, ux_3⟩ ⟨lx_4, ux_4⟩ (fun c26 => ?_) (fun c26 => ?_)
    · refine lv_aload_n hx hb dX9_ruledClash_33 rfl (lv_at hl 1 rfl) ?_
      exact J34 a0 m_a0 o_a0 (by omega) _ _ _ hw (lv_sub hl [3, 4, 0] rfl)
    · refine lv_aload_n hx hb dX9_ruledClash_29 rfl (lv_at hl 2 rfl) ?_
      refine lv_goto (tgt := 34) hx hb dX9_ruledClash_30 (by decide) ?_
      exact J34 a1 m_a1 o_a1 (by omega) _ _ _ hw (lv_sub hl [3, 4, 0] rfl)
  refine q_icmp_gt (tgt := 15) hx hb dX9_ruledClash_8 (by decide) ⟨lx_1, ux_1⟩ ⟨lx_2, ux_2⟩ (fun c8 => ?_) (fun c8 => ?_)
  · refine lv_aload_n hx hb dX9_ruledClash_15 rfl (lv_at hl 1 rfl) ?_
    exact J16 a1 m_a1 o_a1 (by omega) _ _ _ hw (lv_sub hl [0, 1, 2, 3] rfl)
  · refine lv_aload_n hx hb dX9_ruledClash_11 rfl (lv_at hl 0 rfl) ?_
    refine lv_goto (tgt := 16) hx hb dX9_ruledClash_12 (by decide) ?_
    exact J16 a0 m_a0 o_a0 (by omega) _ _ _ hw (lv_sub hl [0, 1, 2, 3] rfl)