set_option maxHeartbeats 4000000 in
set_option maxRecDepth 100000 in
theorem c_X10_next_ {Z : Zt} (zo : Zok Z) (l : Launch) (D : va_G) (cy : Cy) (L0 : List Nat) (f0 : Nat → va_E) (a0 : Nat) (x1 : Int) (lx1 : -2147483648 ≤ x1) (ux1 : x1 ≤ 2147483647) (x2 : Int) (lx2 : -2147483648 ≤ x2) (ux2 : x2 ≤ 2147483647) (x3 : Int) (lx3 : -2147483648 ≤ x3) (ux3 : x3 ≤ 2147483647) (ad : Nat → Nat) (hs : MS cy L0 f0 a0 ad) (hv : MV f0 a0 ad) : Ci Z l yX10_next_ (Cond.code yX10_next_ cX10_next_ 5 (some .int) :: TB) ({ frames := 4, cells := 0, slots := 0, locals := 103 } : Room) 0 0 D (tq cy) [.ref a0, .int (iI x1), .int (iI x2), .int (iI x3)] L0 f0 (fun (r : Int) (L1 : List Nat) (f1 : Nat → va_E) => L0 = L1 ∧ MS cy L0 f1 a0 ad ∧ Kp a0 ad [11, 12, 13] [10] f0 f1 ∧ (True)) := by
  refine Ci.enter (cc := cX10_next_) (n := 5) rfl (plainFor_of_name (by decide)) (Nat.le_of_ble_eq_true rfl) ?_
  intro p e s m below meth c ls A hx hb hr hts hown hlocks hnm hml hK hA hAe hw hZ hl
  have hown : s.vm.findClass RX10 = some m.cls := hown
  have hl : lv_has ls 5 [(0, .ref a0), (1, .int (iI x1)), (2, .int (iI x2)), (3, .int (iI x3))] := hl
  have hN : ZN s := (zo.2.2.2.2 _ _ _ hZ).2
  have hE : Kp a0 ad [11, 12, 13] [10] f0 f0 := Kp.refl _ _ _ _ _
  have m5 := hv.1
  have m6 := hv.2.1
  refine lv_aload_n hx hb dX10_next__0 rfl (lv_at hl 0 rfl) ?_
  refine q_iconst hx hb dX10_next__1 ?_
  refine q_puti (ci := 8) (C := RX10) (T := TX10) (N := 26) hx hb hts (fun w h => List.mem_cons_of_mem _ (mfX100 w h)) hown hK hw hs.1 hs.2.1 rfl 10 (by decide) (hts _ (List.mem_cons_of_mem _ (mr4 _ (List.mem_of_getElem? (i := 19) rfl)))) (fun _ h => h) tyX10 tyX10_ok nmX10 rfl (ty := .int) (by decide +kernel) rfl rfl dX10_next__2 (fun H locs hw => ?_)
  obtain ⟨f_1, ef_1⟩ : ∃ g : Nat → va_E, g = pU f0 a0 10 (.int (iI 0)) := ⟨_, rfl⟩
  have v10_f_1 : fI f_1 a0 10 = 0 := by rw [ef_1]; exact fI_pU_self hs.2.1 rfl ⟨by decide, by decide⟩
  have t5_f_1 : fI f_1 a0 5 = fI f0 a0 5 := by rw [ef_1]; exact fI_pU (Or.inr (by decide))
  have hE := hE.trans (show Kp a0 ad [11, 12, 13] [10] f0 f_1 by rw [ef_1]; exact Kp_pU hs (by decide))
  have hs : MS cy L0 f_1 a0 ad := by rw [ef_1]; exact MS_pU hs rfl
  rw [← ef_1] at hw
  refine lv_aload_n hx hb dX10_next__5 rfl (lv_at hl 0 rfl) ?_
  refine lv_iload_n hx hb dX10_next__6 rfl (lv_at hl 1 rfl) ?_
  refine q_call_i hA hK hw (va_runV (As := [.int (iI x1)]) (rest := []) ⟨hx, hb, hml, hown, hts⟩ (c_X10_isBooking zo l D cy L0 f_1 a0 x1 lx1 ux1 ad hs (by omega) _) (cwV 1 hts (gT (inV (mr22 _ (List.mem_of_getElem? (i := 21) rfl)) (mr22 _ (List.mem_of_getElem? (i := 22) rfl)) (mr22 _ (List.mem_of_getElem? (i := 23) rfl)) (mr1 _ (List.mem_of_getElem? (i := 5) rfl)) (mr23 _ (List.mem_of_getElem? (i := 0) rfl)))) rfl rfl rfl (by decide +kernel) ⟨Nat.le_of_ble_eq_true rfl, Nat.le_of_ble_eq_true rfl⟩) (Wd.preV zo hA hZ hw hK hs.1 hs.2.1 rfl) rfl rfl hl.1 rfl (lv_room (Nat.le_of_ble_eq_true rfl)) dX10_next__7 ⟨Nat.le_of_ble_eq_true rfl, Nat.le_of_ble_eq_true rfl⟩) (fun x_2 L1 f1 H locs lx_2 ux_2 ex_2 hw => ?_)
  obtain ⟨rfl, rfl, ex_2⟩ := ex_2
  refine q_if_eq (tgt := 29) hx hb dX10_next__10 (by decide) ⟨lx_2, ux_2⟩ (fun c10 => ?_) (fun c10 => ?_)
  · refine q_iconst hx hb dX10_next__29 ?_
    exact q_ret_i hx hb hr hlocks hK hAe hw ⟨by decide, by decide⟩ (Nat.le_of_ble_eq_true rfl) (Nat.le_of_ble_eq_true rfl) dX10_next__30 (by exact ⟨rfl, hs, hE, by first | trivial | omega⟩)
  · refine lv_iload_n hx hb dX10_next__13 rfl (lv_at hl 2 rfl) ?_
    refine q_call_i hA hK hw (va_runS (As := [.int (iI x2)]) (rest := []) ⟨hx, hb, hml, hown, hts⟩ (c_X10_isTime zo l D cy L0 f_1 x2 lx2 ux2 _) (va_cwS 1 hts (gT (inS (mr28 _ (List.mem_of_getElem? (i := 3) rfl)) (mr28 _ (List.mem_of_getElem? (i := 4) rfl)) (mr1 _ (List.mem_of_getElem? (i := 5) rfl)) (mr28 _ (List.mem_of_getElem? (i := 5) rfl)))) rfl rfl rfl (by decide +kernel) ⟨Nat.le_of_ble_eq_true rfl, Nat.le_of_ble_eq_true rfl⟩) (Wd.preS zo hA hZ hw hK) rfl rfl hl.1 rfl (lv_room (Nat.le_of_ble_eq_true rfl)) dX10_next__14 ⟨Nat.le_of_ble_eq_true rfl, Nat.le_of_ble_eq_true rfl⟩) (fun x_3 L1 f1 H locs lx_3 ux_3 ex_3 hw => ?_)
    obtain ⟨rfl, rfl, ex_3⟩ := ex_3
    refine q_if_eq (tgt := 29) hx hb dX10_next__17 (by decide) ⟨lx_3, ux_3⟩ (fun c17 => ?_) (fun c17 => ?_)
    · refine q_iconst hx hb dX10_next__29 ?_
      exact q_ret_i hx hb hr hlocks hK hAe hw ⟨by decide, by decide⟩ (Nat.le_of_ble_eq_true rfl) (Nat.le_of_ble_eq_true rfl) dX10_next__30 (by exact ⟨rfl, hs, hE, by first | trivial | omega⟩)
    · refine lv_iload_n hx hb dX10_next__20 rfl (lv_at hl 3 rfl) ?_
      refine q_iconst hx hb dX10_next__21 ?_
      refine q_iconst hx hb dX10_next__22 ?_
      refine q_call_i hA hK hw (va_runS (As := [.int (iI x3), .int (iI 0), .int (iI 1)]) (rest := []) ⟨hx, hb, hml, hown, hts⟩ (c_X10_within zo l D cy L0 f_1 x3 lx3 ux3 0 (by decide) (by decide) 1 (by decide) (by decide) _) (va_cwS 3 hts (gT (inS (mr5 _ (List.mem_of_getElem? (i := 9) rfl)) (mr5 _ (List.mem_of_getElem? (i := 10) rfl)) (mr1 _ (List.mem_of_getElem? (i := 5) rfl)) (mr5 _ (List.mem_of_getElem? (i := 11) rfl)))) rfl rfl rfl (by decide +kernel) ⟨Nat.le_of_ble_eq_true rfl, Nat.le_of_ble_eq_true rfl⟩) (Wd.preS zo hA hZ hw hK) rfl rfl hl.1 rfl (lv_room (Nat.le_of_ble_eq_true rfl)) dX10_next__23 ⟨Nat.le_of_ble_eq_true rfl, Nat.le_of_ble_eq_true rfl⟩) (fun x_4 L1 f1 H locs lx_4 ux_4 ex_4 hw => ?_)
      obtain ⟨rfl, rfl, ex_4⟩ := ex_4
      refine q_if_ne (tgt := 31) hx hb dX10_next__26 (by decide) ⟨lx_4, ux_4⟩ (fun c26 => ?_) (fun c26 => ?_)
      · refine lv_aload_n hx hb dX10_next__31 rfl (lv_at hl 0 rfl) ?_
        refine lv_iload_n hx hb dX10_next__32 rfl (lv_at hl 1 rfl) ?_
        refine q_iconst hx hb dX10_next__33 ?_
        refine q_call_v hA hK hw (va_runV (As := [.int (iI x1), .int (iI 0)]) (rest := []) ⟨hx, hb, hml, hown, hts⟩ (c_X10_laysTimes zo l D cy L0 f_1 a0 x1 lx1 ux1 0 (by decide) (by decide) ad hs (by first | exact hv | exact hv.kp hE (by decide) (by decide)) (by omega) (by omega) (by omega) (by omega) _) (cwV 2 hts (gT (inV (mr30 _ (List.mem_of_getElem? (i := 11) rfl)) (mr30 _ (List.mem_of_getElem? (i := 12) rfl)) (mr30 _ (List.mem_of_getElem? (i := 13) rfl)) (mr1 _ (List.mem_of_getElem? (i := 5) rfl)) (mr30 _ (List.mem_of_getElem? (i := 14) rfl)))) rfl rfl rfl (by decide +kernel) ⟨Nat.le_of_ble_eq_true rfl, Nat.le_of_ble_eq_true rfl⟩) (Wd.preV zo hA hZ hw hK hs.1 hs.2.1 rfl) rfl rfl hl.1 rfl (lv_room (Nat.le_of_ble_eq_true rfl)) dX10_next__34 ⟨Nat.le_of_ble_eq_true rfl, Nat.le_of_ble_eq_true rfl⟩) (fun L1 f_6 H locs ex_5 hw => ?_)
        obtain ⟨rfl, hs, hX, ex_5⟩ := ex_5
        have hE := hE.trans (hX.mono (rs' := [11, 12, 13]) (fs' := [10]) (by decide) (by decide))
        have t5_f_6 : fI f_6 a0 5 = fI f_1 a0 5 := hX.2 5 (by decide)
        obtain ⟨px_5a, px_5b, px_5c, lwx_5⟩ := ex_5
        refine q_iconst hx hb dX10_next__37 ?_
        refine lv_istore (lv' := [(4, .int (iI 0)), (0, .ref a0), (1, .int (iI x1)), (2, .int (iI x2)), (3, .int (iI x3))]) hx hb dX10_next__38 hl (by decide) rfl (fun ls hl => ?_)
        have J40 : ∀ (n40 : Nat) (y4_40 : Int) (ly4_40 : -2147483648 ≤ y4_40) (uy4_40 : y4_40 ≤ 2147483647) (i1 : 0 ≤ y4_40) (hn40 : ((2147483647 : Int) - y4_40).toNat < n40) (H : Heap) (locs : List Loc) (ls : Array Slot) (hw : Wd D A s.heap L0 f_6 H locs) (hl : lv_has ls 5 [(0, .ref a0), (2, .int (iI x2)), (3, .int (iI x3)), (4, .int (iI y4_40))]), W p l e ({ frames := 4, cells := 0, slots := 0, locals := 103 } : Room) s m ([.ref a0, .int (iI x1), .int (iI x2), .int (iI x3)] : List Value).toArray below meth c H locs (0 + 0 + 0 + 0 + 0) (0 + 0 + 0 + 0 + 0) (MQ below (Qi D (tq cy) L0 f0 s.heap.size (fun (r : Int) (L1 : List Nat) (f1 : Nat → va_E) => L0 = L1 ∧ MS cy L0 f1 a0 ad ∧ Kp a0 ad [11, 12, 13] [10] f0 f1 ∧ (True))) ([.ref a0, .int (iI x1), .int (iI x2), .int (iI x3)] : List Value).toArray s 0 0 A) (F0 m 40 ls []) := by
          intro n40
          induction n40 with
          | zero => intro y4_40 ly4_40 uy4_40 i1 hn40; exact absurd hn40 (Nat.not_lt_zero _)
          | succ n40 ih40 =>
            intro y4_40 ly4_40 uy4_40 i1 hn40 H locs ls hw hl
            refine lv_iload hx hb dX10_next__40 (lv_at hl 3 rfl) ?_
            refine lv_aload_n hx hb dX10_next__42 rfl (lv_at hl 0 rfl) ?_
            refine q_getr (ci := 8) (C := RX10) (T := TX10) (N := 26) hx hb hts (fun w h => List.mem_cons_of_mem _ (mfX100 w h)) hown hK hw hs.1 hs.2.1 rfl 13 (by decide) (hts _ (List.mem_cons_of_mem _ (mr3 _ (List.mem_of_getElem? (i := 21) rfl)))) (fun _ h => h) rfl (hs.2.2.1 13 rfl).1 dX10_next__43 ?_
            refine q_iconst hx hb dX10_next__46 ?_
            refine q_iald hx hb hK hw (hs.2.2.1 13 rfl).2.1 1 (hs.2.2.1 13 rfl).2.2 rfl ⟨by decide, by decide⟩ (by omega) (by show _ < ((2 : Nat) : Int); omega) dX10_next__47 (fun x_7 lx_7 ux_7 ex_7 => ?_)
            refine q_icmp_ge (tgt := 90) hx hb dX10_next__48 (by decide) ⟨ly4_40, uy4_40⟩ ⟨lx_7, ux_7⟩ (fun c48 => ?_) (fun c48 => ?_)
            · refine q_iconst hx hb dX10_next__90 ?_
              exact q_ret_i hx hb hr hlocks hK hAe hw ⟨by decide, by decide⟩ (Nat.le_of_ble_eq_true rfl) (Nat.le_of_ble_eq_true rfl) dX10_next__91 (by exact ⟨rfl, hs, hE, by first | trivial | omega⟩)
            · refine lv_aload_n hx hb dX10_next__51 rfl (lv_at hl 0 rfl) ?_
              refine q_getr (ci := 8) (C := RX10) (T := TX10) (N := 26) hx hb hts (fun w h => List.mem_cons_of_mem _ (mfX100 w h)) hown hK hw hs.1 hs.2.1 rfl 11 (by decide) (hts _ (List.mem_cons_of_mem _ (mr3 _ (List.mem_of_getElem? (i := 19) rfl)))) (fun _ h => h) rfl (hs.2.2.1 11 rfl).1 dX10_next__52 ?_
              refine lv_iload hx hb dX10_next__55 (lv_at hl 3 rfl) ?_
              refine q_iald hx hb hK hw (hs.2.2.1 11 rfl).2.1 1 (hs.2.2.1 11 rfl).2.2 rfl ⟨ly4_40, uy4_40⟩ (by omega) (by show _ < ((73050 : Nat) : Int); omega) dX10_next__57 (fun x_8 lx_8 ux_8 ex_8 => ?_)
              refine lv_iload_n hx hb dX10_next__58 rfl (lv_at hl 1 rfl) ?_
              refine q_icmp_lt (tgt := 84) hx hb dX10_next__59 (by decide) ⟨lx_8, ux_8⟩ ⟨lx2, ux2⟩ (fun c59 => ?_) (fun c59 => ?_)
              · obtain ⟨x_9, lx_9, ux_9, hx_9, ex_9⟩ := q_inc y4_40 (1)
                try (replace ex_9 : x_9 = y4_40 + (1) := by omega)
                refine lv_iinc (v := iI x_9) (lv' := [(4, .int (iI x_9)), (0, .ref a0), (2, .int (iI x2)), (3, .int (iI x3))]) hx hb dX10_next__84 hl (k := 3) rfl hx_9 (by decide) rfl (fun ls hl => ?_)
                refine lv_goto (tgt := 40) hx hb dX10_next__87 (by decide) ?_
                exact ih40 x_9 lx_9 ux_9 (by omega) (by omega) _ _ _ hw (lv_sub hl [1, 2, 3, 0] rfl)
              · refine lv_iload_n hx hb dX10_next__62 rfl (lv_at hl 2 rfl) ?_
                refine q_if_ne (tgt := 76) hx hb dX10_next__63 (by decide) ⟨lx3, ux3⟩ (fun c63 => ?_) (fun c63 => ?_)
                · refine lv_aload_n hx hb dX10_next__76 rfl (lv_at hl 0 rfl) ?_
                  refine q_getr (ci := 8) (C := RX10) (T := TX10) (N := 26) hx hb hts (fun w h => List.mem_cons_of_mem _ (mfX100 w h)) hown hK hw hs.1 hs.2.1 rfl 12 (by decide) (hts _ (List.mem_cons_of_mem _ (mr3 _ (List.mem_of_getElem? (i := 20) rfl)))) (fun _ h => h) rfl (hs.2.2.1 12 rfl).1 dX10_next__77 ?_
                  refine lv_iload hx hb dX10_next__80 (lv_at hl 3 rfl) ?_
                  refine q_iald hx hb hK hw (hs.2.2.1 12 rfl).2.1 1 (hs.2.2.1 12 rfl).2.2 rfl ⟨ly4_40, uy4_40⟩ (by omega) (by show _ < ((73050 : Nat) : Int); omega) dX10_next__82 (fun x_10 lx_10 ux_10 ex_10 => ?_)
                  exact q_ret_i hx hb hr hlocks hK hAe hw ⟨lx_10, ux_10⟩ (Nat.le_of_ble_eq_true rfl) (Nat.le_of_ble_eq_true rfl) dX10_next__83 (by exact ⟨rfl, hs, hE, by first | trivial | omega⟩)
                · refine lv_aload_n hx hb dX10_next__66 rfl (lv_at hl 0 rfl) ?_
                  refine q_getr (ci := 8) (C := RX10) (T := TX10) (N := 26) hx hb hts (fun w h => List.mem_cons_of_mem _ (mfX100 w h)) hown hK hw hs.1 hs.2.1 rfl 11 (by decide) (hts _ (List.mem_cons_of_mem _ (mr3 _ (List.mem_of_getElem? (i := 19) rfl)))) (fun _ h => h) rfl (hs.2.2.1 11 rfl).1 dX10_next__67 ?_
                  refine lv_iload hx hb dX10_next__70 (lv_at hl 3 rfl) ?_
                  refine q_iald hx hb hK hw (hs.2.2.1 11 rfl).2.1 1 (hs.2.2.1 11 rfl).2.2 rfl ⟨ly4_40, uy4_40⟩ (by omega) (by show _ < ((73050 : Nat) : Int); omega) dX10_next__72 (fun x_11 lx_11 ux_11 ex_11 => ?_)
                  refine lv_goto (tgt := 83) hx hb dX10_next__73 (by decide) ?_
                  exact q_ret_i hx hb hr hlocks hK hAe hw ⟨lx_11, ux_11⟩ (Nat.le_of_ble_eq_true rfl) (Nat.le_of_ble_eq_true rfl) dX10_next__83 (by exact ⟨rfl, hs, hE, by first | trivial | omega⟩)
        exact J40 ((((2147483647 : Int) - 0).toNat) + 1) 0 (by decide) (by decide) (by omega) (by omega) _ _ _ hw (lv_sub hl [1, 3, 4, 0] rfl)
      · refine q_iconst hx hb dX10_next__29 ?_
        exact q_ret_i hx hb hr hlocks hK hAe hw ⟨by decide, by decide⟩ (Nat.le_of_ble_eq_true rfl) (Nat.le_of_ble_eq_true rfl) dX10_next__30 (by exact ⟨rfl, hs, hE, by first | trivial | omega⟩)
set_option maxHeartbeats 4000000 in
set_option maxRecDepth 100000 in
theorem c_X10_ahead {Z : Zt} (zo : Zok Z) (l : Launch) (D : va_G) (cy : Cy) (L0 : List Nat) (f0 : Nat → va_E) (a0 : Nat) (x1 : Int) (lx1 : -2147483648 ≤ x1) (ux1 : x1 ≤ 2147483647) (x2 : Int) (lx2 : -2147483648 ≤ x2) (ux2 : x2 ≤ 2147483647) (x3 : Int) (lx3 : -2147483648 ≤ x3) (ux3 : x3 ≤ 2147483647) (ad : Nat → Nat) (hs : MS cy L0 f0 a0 ad) (hv : MV f0 a0 ad) : Ci Z l yX10_ahead (Cond.code yX10_ahead cX10_ahead 5 (some .int) :: TB) ({ frames := 4, cells := 0, slots := 0, locals := 103 } : Room) 0 0 D (tq cy) [.ref a0, .int (iI x1), .int (iI x2), .int (iI x3)] L0 f0 (fun (r : Int) (L1 : List Nat) (f1 : Nat → va_E) => L0 = L1 ∧ MS cy L0 f1 a0 ad ∧ Kp a0 ad [11, 12, 13] [10] f0 f1 ∧ (True)) := by
  refine Ci.enter (cc := cX10_ahead) (n := 5) rfl (plainFor_of_name (by decide)) (Nat.le_of_ble_eq_true rfl) ?_
  intro p e s m below meth c ls A hx hb hr hts hown hlocks hnm hml hK hA hAe hw hZ hl
  have hown : s.vm.findClass RX10 = some m.cls := hown
  have hl : lv_has ls 5 [(0, .ref a0), (1, .int (iI x1)), (2, .int (iI x2)), (3, .int (iI x3))] := hl
  have hN : ZN s := (zo.2.2.2.2 _ _ _ hZ).2
  have hE : Kp a0 ad [11, 12, 13] [10] f0 f0 := Kp.refl _ _ _ _ _
  have m5 := hv.1
  have m6 := hv.2.1
  refine lv_aload_n hx hb dX10_ahead_0 rfl (lv_at hl 0 rfl) ?_
  refine q_iconst hx hb dX10_ahead_1 ?_
  refine q_puti (ci := 8) (C := RX10) (T := TX10) (N := 26) hx hb hts (fun w h => List.mem_cons_of_mem _ (mfX100 w h)) hown hK hw hs.1 hs.2.1 rfl 10 (by decide) (hts _ (List.mem_cons_of_mem _ (mr4 _ (List.mem_of_getElem? (i := 19) rfl)))) (fun _ h => h) tyX10 tyX10_ok nmX10 rfl (ty := .int) (by decide +kernel) rfl rfl dX10_ahead_2 (fun H locs hw => ?_)
  obtain ⟨f_1, ef_1⟩ : ∃ g : Nat → va_E, g = pU f0 a0 10 (.int (iI 0)) := ⟨_, rfl⟩
  have v10_f_1 : fI f_1 a0 10 = 0 := by rw [ef_1]; exact fI_pU_self hs.2.1 rfl ⟨by decide, by decide⟩
  have t5_f_1 : fI f_1 a0 5 = fI f0 a0 5 := by rw [ef_1]; exact fI_pU (Or.inr (by decide))
  have hE := hE.trans (show Kp a0 ad [11, 12, 13] [10] f0 f_1 by rw [ef_1]; exact Kp_pU hs (by decide))
  have hs : MS cy L0 f_1 a0 ad := by rw [ef_1]; exact MS_pU hs rfl
  rw [← ef_1] at hw
  refine lv_aload_n hx hb dX10_ahead_5 rfl (lv_at hl 0 rfl) ?_
  refine lv_iload_n hx hb dX10_ahead_6 rfl (lv_at hl 1 rfl) ?_
  refine q_call_i hA hK hw (va_runV (As := [.int (iI x1)]) (rest := []) ⟨hx, hb, hml, hown, hts⟩ (c_X10_isBooking zo l D cy L0 f_1 a0 x1 lx1 ux1 ad hs (by omega) _) (cwV 1 hts (gT (inV (mr22 _ (List.mem_of_getElem? (i := 21) rfl)) (mr22 _ (List.mem_of_getElem? (i := 22) rfl)) (mr22 _ (List.mem_of_getElem? (i := 23) rfl)) (mr1 _ (List.mem_of_getElem? (i := 5) rfl)) (mr23 _ (List.mem_of_getElem? (i := 0) rfl)))) rfl rfl rfl (by decide +kernel) ⟨Nat.le_of_ble_eq_true rfl, Nat.le_of_ble_eq_true rfl⟩) (Wd.preV zo hA hZ hw hK hs.1 hs.2.1 rfl) rfl rfl hl.1 rfl (lv_room (Nat.le_of_ble_eq_true rfl)) dX10_ahead_7 ⟨Nat.le_of_ble_eq_true rfl, Nat.le_of_ble_eq_true rfl⟩) (fun x_2 L1 f1 H locs lx_2 ux_2 ex_2 hw => ?_)
  obtain ⟨rfl, rfl, ex_2⟩ := ex_2
  refine q_if_eq (tgt := 29) hx hb dX10_ahead_10 (by decide) ⟨lx_2, ux_2⟩ (fun c10 => ?_) (fun c10 => ?_)
  · refine q_iconst hx hb dX10_ahead_29 ?_
    exact q_ret_i hx hb hr hlocks hK hAe hw ⟨by decide, by decide⟩ (Nat.le_of_ble_eq_true rfl) (Nat.le_of_ble_eq_true rfl) dX10_ahead_30 (by exact ⟨rfl, hs, hE, by first | trivial | omega⟩)
  · refine lv_iload_n hx hb dX10_ahead_13 rfl (lv_at hl 2 rfl) ?_
    refine q_call_i hA hK hw (va_runS (As := [.int (iI x2)]) (rest := []) ⟨hx, hb, hml, hown, hts⟩ (c_X10_isTime zo l D cy L0 f_1 x2 lx2 ux2 _) (va_cwS 1 hts (gT (inS (mr28 _ (List.mem_of_getElem? (i := 3) rfl)) (mr28 _ (List.mem_of_getElem? (i := 4) rfl)) (mr1 _ (List.mem_of_getElem? (i := 5) rfl)) (mr28 _ (List.mem_of_getElem? (i := 5) rfl)))) rfl rfl rfl (by decide +kernel) ⟨Nat.le_of_ble_eq_true rfl, Nat.le_of_ble_eq_true rfl⟩) (Wd.preS zo hA hZ hw hK) rfl rfl hl.1 rfl (lv_room (Nat.le_of_ble_eq_true rfl)) dX10_ahead_14 ⟨Nat.le_of_ble_eq_true rfl, Nat.le_of_ble_eq_true rfl⟩) (fun x_3 L1 f1 H locs lx_3 ux_3 ex_3 hw => ?_)
    obtain ⟨rfl, rfl, ex_3⟩ := ex_3
    refine q_if_eq (tgt := 29) hx hb dX10_ahead_17 (by decide) ⟨lx_3, ux_3⟩ (fun c17 => ?_) (fun c17 => ?_)
    · refine q_iconst hx hb dX10_ahead_29 ?_
      exact q_ret_i hx hb hr hlocks hK hAe hw ⟨by decide, by decide⟩ (Nat.le_of_ble_eq_true rfl) (Nat.le_of_ble_eq_true rfl) dX10_ahead_30 (by exact ⟨rfl, hs, hE, by first | trivial | omega⟩)
    · refine lv_iload_n hx hb dX10_ahead_20 rfl (lv_at hl 3 rfl) ?_
      refine q_iconst hx hb dX10_ahead_21 ?_
      refine q_iconst hx hb dX10_ahead_22 ?_
      refine q_call_i hA hK hw (va_runS (As := [.int (iI x3), .int (iI 0), .int (iI 1)]) (rest := []) ⟨hx, hb, hml, hown, hts⟩ (c_X10_within zo l D cy L0 f_1 x3 lx3 ux3 0 (by decide) (by decide) 1 (by decide) (by decide) _) (va_cwS 3 hts (gT (inS (mr5 _ (List.mem_of_getElem? (i := 9) rfl)) (mr5 _ (List.mem_of_getElem? (i := 10) rfl)) (mr1 _ (List.mem_of_getElem? (i := 5) rfl)) (mr5 _ (List.mem_of_getElem? (i := 11) rfl)))) rfl rfl rfl (by decide +kernel) ⟨Nat.le_of_ble_eq_true rfl, Nat.le_of_ble_eq_true rfl⟩) (Wd.preS zo hA hZ hw hK) rfl rfl hl.1 rfl (lv_room (Nat.le_of_ble_eq_true rfl)) dX10_ahead_23 ⟨Nat.le_of_ble_eq_true rfl, Nat.le_of_ble_eq_true rfl⟩) (fun x_4 L1 f1 H locs lx_4 ux_4 ex_4 hw => ?_)
      obtain ⟨rfl, rfl, ex_4⟩ := ex_4
      refine q_if_ne (tgt := 31) hx hb dX10_ahead_26 (by decide) ⟨lx_4, ux_4⟩ (fun c26 => ?_) (fun c26 => ?_)
      · refine lv_aload_n hx hb dX10_ahead_31 rfl (lv_at hl 0 rfl) ?_
        refine lv_iload_n hx hb dX10_ahead_32 rfl (lv_at hl 1 rfl) ?_
        refine q_iconst hx hb dX10_ahead_33 ?_
        refine q_call_v hA hK hw (va_runV (As := [.int (iI x1), .int (iI 0)]) (rest := []) ⟨hx, hb, hml, hown, hts⟩ (c_X10_laysTimes zo l D cy L0 f_1 a0 x1 lx1 ux1 0 (by decide) (by decide) ad hs (by first | exact hv | exact hv.kp hE (by decide) (by decide)) (by omega) (by omega) (by omega) (by omega) _) (cwV 2 hts (gT (inV (mr30 _ (List.mem_of_getElem? (i := 11) rfl)) (mr30 _ (List.mem_of_getElem? (i := 12) rfl)) (mr30 _ (List.mem_of_getElem? (i := 13) rfl)) (mr1 _ (List.mem_of_getElem? (i := 5) rfl)) (mr30 _ (List.mem_of_getElem? (i := 14) rfl)))) rfl rfl rfl (by decide +kernel) ⟨Nat.le_of_ble_eq_true rfl, Nat.le_of_ble_eq_true rfl⟩) (Wd.preV zo hA hZ hw hK hs.1 hs.2.1 rfl) rfl rfl hl.1 rfl (lv_room (Nat.le_of_ble_eq_true rfl)) dX10_ahead_34 ⟨Nat.le_of_ble_eq_true rfl, Nat.le_of_ble_eq_true rfl⟩) (fun L1 f_6 H locs ex_5 hw => ?_)
        obtain ⟨rfl, hs, hX, ex_5⟩ := ex_5
        have hE := hE.trans (hX.mono (rs' := [11, 12, 13]) (fs' := [10]) (by decide) (by decide))
        have t5_f_6 : fI f_6 a0 5 = fI f_1 a0 5 := hX.2 5 (by decide)
        obtain ⟨px_5a, px_5b, px_5c, lwx_5⟩ := ex_5
        refine lv_aload_n hx hb dX10_ahead_37 rfl (lv_at hl 0 rfl) ?_
        refine q_getr (ci := 8) (C := RX10) (T := TX10) (N := 26) hx hb hts (fun w h => List.mem_cons_of_mem _ (mfX100 w h)) hown hK hw hs.1 hs.2.1 rfl 13 (by decide) (hts _ (List.mem_cons_of_mem _ (mr3 _ (List.mem_of_getElem? (i := 21) rfl)))) (fun _ h => h) rfl (hs.2.2.1 13 rfl).1 dX10_ahead_38 ?_
        refine q_iconst hx hb dX10_ahead_41 ?_
        refine q_iald hx hb hK hw (hs.2.2.1 13 rfl).2.1 1 (hs.2.2.1 13 rfl).2.2 rfl ⟨by decide, by decide⟩ (by omega) (by show _ < ((2 : Nat) : Int); omega) dX10_ahead_42 (fun x_7 lx_7 ux_7 ex_7 => ?_)
        refine q_iconst hx hb dX10_ahead_43 ?_
        first | refine q_isub hx hb dX10_ahead_44 ⟨by omega, by omega⟩ (fun x_8 lx_8 ux_8 ex_8 => ?_) | refine q_isubw hx hb dX10_ahead_44 (fun x_8 lx_8 ux_8 ex_8 => ?_)
        refine lv_istore (lv' := [(4, .int (iI x_8)), (0, .ref a0), (1, .int (iI x1)), (2, .int (iI x2)), (3, .int (iI x3))]) hx hb dX10_ahead_45 hl (by decide) rfl (fun ls hl => ?_)
        have J47 : ∀ (n47 : Nat) (y4_47 : Int) (ly4_47 : -2147483648 ≤ y4_47) (uy4_47 : y4_47 ≤ 2147483647) (i1 : -1 ≤ y4_47) (i2 : y4_47 ≤ 36524) (hn47 : (y4_47 + (2147483648 : Int)).toNat < n47) (H : Heap) (locs : List Loc) (ls : Array Slot) (hw : Wd D A s.heap L0 f_6 H locs) (hl : lv_has ls 5 [(0, .ref a0), (2, .int (iI x2)), (3, .int (iI x3)), (4, .int (iI y4_47))]), W p l e ({ frames := 4, cells := 0, slots := 0, locals := 103 } : Room) s m ([.ref a0, .int (iI x1), .int (iI x2), .int (iI x3)] : List Value).toArray below meth c H locs (0 + 0 + 0 + 0 + 0) (0 + 0 + 0 + 0 + 0) (MQ below (Qi D (tq cy) L0 f0 s.heap.size (fun (r : Int) (L1 : List Nat) (f1 : Nat → va_E) => L0 = L1 ∧ MS cy L0 f1 a0 ad ∧ Kp a0 ad [11, 12, 13] [10] f0 f1 ∧ (True))) ([.ref a0, .int (iI x1), .int (iI x2), .int (iI x3)] : List Value).toArray s 0 0 A) (F0 m 47 ls []) := by
          intro n47
          induction n47 with
          | zero => intro y4_47 ly4_47 uy4_47 i1 i2 hn47; exact absurd hn47 (Nat.not_lt_zero _)
          | succ n47 ih47 =>
            intro y4_47 ly4_47 uy4_47 i1 i2 hn47 H locs ls hw hl
            refine lv_iload hx hb dX10_ahead_47 (lv_at hl 3 rfl) ?_
            refine q_if_lt (tgt := 91) hx hb dX10_ahead_49 (by decide) ⟨ly4_47, uy4_47⟩ (fun c49 => ?_) (fun c49 => ?_)
            · refine q_iconst hx hb dX10_ahead_91 ?_
              exact q_ret_i hx hb hr hlocks hK hAe hw ⟨by decide, by decide⟩ (Nat.le_of_ble_eq_true rfl) (Nat.le_of_ble_eq_true rfl) dX10_ahead_92 (by exact ⟨rfl, hs, hE, by first | trivial | omega⟩)
            · refine lv_aload_n hx hb dX10_ahead_52 rfl (lv_at hl 0 rfl) ?_
              refine q_getr (ci := 8) (C := RX10) (T := TX10) (N := 26) hx hb hts (fun w h => List.mem_cons_of_mem _ (mfX100 w h)) hown hK hw hs.1 hs.2.1 rfl 11 (by decide) (hts _ (List.mem_cons_of_mem _ (mr3 _ (List.mem_of_getElem? (i := 19) rfl)))) (fun _ h => h) rfl (hs.2.2.1 11 rfl).1 dX10_ahead_53 ?_
              refine lv_iload hx hb dX10_ahead_56 (lv_at hl 3 rfl) ?_
              refine q_iald hx hb hK hw (hs.2.2.1 11 rfl).2.1 1 (hs.2.2.1 11 rfl).2.2 rfl ⟨ly4_47, uy4_47⟩ (by omega) (by show _ < ((73050 : Nat) : Int); omega) dX10_ahead_58 (fun x_9 lx_9 ux_9 ex_9 => ?_)
              refine lv_iload_n hx hb dX10_ahead_59 rfl (lv_at hl 1 rfl) ?_
              refine q_icmp_ge (tgt := 85) hx hb dX10_ahead_60 (by decide) ⟨lx_9, ux_9⟩ ⟨lx2, ux2⟩ (fun c60 => ?_) (fun c60 => ?_)
              · obtain ⟨x_10, lx_10, ux_10, hx_10, ex_10⟩ := q_inc y4_47 (-1)
                try (replace ex_10 : x_10 = y4_47 + (-1) := by omega)
                refine lv_iinc (v := iI x_10) (lv' := [(4, .int (iI x_10)), (0, .ref a0), (2, .int (iI x2)), (3, .int (iI x3))]) hx hb dX10_ahead_85 hl (k := 3) rfl hx_10 (by decide) rfl (fun ls hl => ?_)
                refine lv_goto (tgt := 47) hx hb dX10_ahead_88 (by decide) ?_
                exact ih47 x_10 lx_10 ux_10 (by omega) (by omega) (by omega) _ _ _ hw (lv_sub hl [1, 2, 3, 0] rfl)
              · refine lv_iload_n hx hb dX10_ahead_63 rfl (lv_at hl 2 rfl) ?_
                refine q_if_ne (tgt := 77) hx hb dX10_ahead_64 (by decide) ⟨lx3, ux3⟩ (fun c64 => ?_) (fun c64 => ?_)
                · refine lv_aload_n hx hb dX10_ahead_77 rfl (lv_at hl 0 rfl) ?_
                  refine q_getr (ci := 8) (C := RX10) (T := TX10) (N := 26) hx hb hts (fun w h => List.mem_cons_of_mem _ (mfX100 w h)) hown hK hw hs.1 hs.2.1 rfl 12 (by decide) (hts _ (List.mem_cons_of_mem _ (mr3 _ (List.mem_of_getElem? (i := 20) rfl)))) (fun _ h => h) rfl (hs.2.2.1 12 rfl).1 dX10_ahead_78 ?_
                  refine lv_iload hx hb dX10_ahead_81 (lv_at hl 3 rfl) ?_
                  refine q_iald hx hb hK hw (hs.2.2.1 12 rfl).2.1 1 (hs.2.2.1 12 rfl).2.2 rfl ⟨ly4_47, uy4_47⟩ (by omega) (by show _ < ((73050 : Nat) : Int); omega) dX10_ahead_83 (fun x_11 lx_11 ux_11 ex_11 => ?_)
                  exact q_ret_i hx hb hr hlocks hK hAe hw ⟨lx_11, ux_11⟩ (Nat.le_of_ble_eq_true rfl) (Nat.le_of_ble_eq_true rfl) dX10_ahead_84 (by exact ⟨rfl, hs, hE, by first | trivial | omega⟩)
                · refine lv_aload_n hx hb dX10_ahead_67 rfl (lv_at hl 0 rfl) ?_
                  refine q_getr (ci := 8) (C := RX10) (T := TX10) (N := 26) hx hb hts (fun w h => List.mem_cons_of_mem _ (mfX100 w h)) hown hK hw hs.1 hs.2.1 rfl 11 (by decide) (hts _ (List.mem_cons_of_mem _ (mr3 _ (List.mem_of_getElem? (i := 19) rfl)))) (fun _ h => h) rfl (hs.2.2.1 11 rfl).1 dX10_ahead_68 ?_
                  refine lv_iload hx hb dX10_ahead_71 (lv_at hl 3 rfl) ?_
                  refine q_iald hx hb hK hw (hs.2.2.1 11 rfl).2.1 1 (hs.2.2.1 11 rfl).2.2 rfl ⟨ly4_47, uy4_47⟩ (by omega) (by show _ < ((73050 : Nat) : Int); omega) dX10_ahead_73 (fun x_12 lx_12 ux_12 ex_12 => ?_)
                  refine lv_goto (tgt := 84) hx hb dX10_ahead_74 (by decide) ?_
                  exact q_ret_i hx hb hr hlocks hK hAe hw ⟨lx_12, ux_12⟩ (Nat.le_of_ble_eq_true rfl) (Nat.le_of_ble_eq_true rfl) dX10_ahead_84 (by exact ⟨rfl, hs, hE, by first | trivial | omega⟩)
        exact J47 (((x_8 + (2147483648 : Int)).toNat) + 1) x_8 lx_8 ux_8 (by omega) (by omega) (by omega) _ _ _ hw (lv_sub hl [1, 3, 4, 0] rfl)
      · refine q_iconst hx hb dX10_ahead_29 ?_
        exact q_ret_i hx hb hr hlocks hK hAe hw ⟨by decide, by decide⟩ (Nat.le_of_ble_eq_true rfl) (Nat.le_of_ble_eq_true rfl) dX10_ahead_30 (by exact ⟨rfl, hs, hE, by first | trivial | omega⟩)
set_option maxHeartbeats 4000000 in
set_option maxRecDepth 100000 in
theorem c_X10_count {Z : Zt} (zo : Zok Z) (l : Launch) (D : va_G) (cy : Cy) (L0 : List Nat) (f0 : Nat → va_E) (a0 : Nat) (x1 : Int) (lx1 : -2147483648 ≤ x1) (ux1 : x1 ≤ 2147483647) (x2 : Int) (lx2 : -2147483648 ≤ x2) (ux2 : x2 ≤ 2147483647) (x3 : Int) (lx3 : -2147483648 ≤ x3) (ux3 : x3 ≤ 2147483647) (ad : Nat → Nat) (hs : MS cy L0 f0 a0 ad) (hv : MV f0 a0 ad) : Ci Z l yX10_count (Cond.code yX10_count cX10_count 6 (some .int) :: TB) ({ frames := 4, cells := 0, slots := 0, locals := 103 } : Room) 0 0 D (tq cy) [.ref a0, .int (iI x1), .int (iI x2), .int (iI x3)] L0 f0 (fun (r : Int) (L1 : List Nat) (f1 : Nat → va_E) => L0 = L1 ∧ MS cy L0 f1 a0 ad ∧ Kp a0 ad [11, 12, 13] [10] f0 f1 ∧ (True)) := by
  refine Ci.enter (cc := cX10_count) (n := 6) rfl (plainFor_of_name (by decide)) (Nat.le_of_ble_eq_true rfl) ?_
  intro p e s m below meth c ls A hx hb hr hts hown hlocks hnm hml hK hA hAe hw hZ hl
  have hown : s.vm.findClass RX10 = some m.cls := hown
  have hl : lv_has ls 6 [(0, .ref a0), (1, .int (iI x1)), (2, .int (iI x2)), (3, .int (iI x3))] := hl
  have hN : ZN s := (zo.2.2.2.2 _ _ _ hZ).2
  have hE : Kp a0 ad [11, 12, 13] [10] f0 f0 := Kp.refl _ _ _ _ _
  have m5 := hv.1
  have m6 := hv.2.1
  refine lv_aload_n hx hb dX10_count_0 rfl (lv_at hl 0 rfl) ?_
  refine q_iconst hx hb dX10_count_1 ?_
  refine q_puti (ci := 8) (C := RX10) (T := TX10) (N := 26) hx hb hts (fun w h => List.mem_cons_of_mem _ (mfX100 w h)) hown hK hw hs.1 hs.2.1 rfl 10 (by decide) (hts _ (List.mem_cons_of_mem _ (mr4 _ (List.mem_of_getElem? (i := 19) rfl)))) (fun _ h => h) tyX10 tyX10_ok nmX10 rfl (ty := .int) (by decide +kernel) rfl rfl dX10_count_2 (fun H locs hw => ?_)
  obtain ⟨f_1, ef_1⟩ : ∃ g : Nat → va_E, g = pU f0 a0 10 (.int (iI 0)) := ⟨_, rfl⟩
  have v10_f_1 : fI f_1 a0 10 = 0 := by rw [ef_1]; exact fI_pU_self hs.2.1 rfl ⟨by decide, by decide⟩
  have t5_f_1 : fI f_1 a0 5 = fI f0 a0 5 := by rw [ef_1]; exact fI_pU (Or.inr (by decide))
  have hE := hE.trans (show Kp a0 ad [11, 12, 13] [10] f0 f_1 by rw [ef_1]; exact Kp_pU hs (by decide))
  have hs : MS cy L0 f_1 a0 ad := by rw [ef_1]; exact MS_pU hs rfl
  rw [← ef_1] at hw
  refine lv_aload_n hx hb dX10_count_5 rfl (lv_at hl 0 rfl) ?_
  refine lv_iload_n hx hb dX10_count_6 rfl (lv_at hl 1 rfl) ?_
  refine q_call_i hA hK hw (va_runV (As := [.int (iI x1)]) (rest := []) ⟨hx, hb, hml, hown, hts⟩ (c_X10_isBooking zo l D cy L0 f_1 a0 x1 lx1 ux1 ad hs (by omega) _) (cwV 1 hts (gT (inV (mr22 _ (List.mem_of_getElem? (i := 21) rfl)) (mr22 _ (List.mem_of_getElem? (i := 22) rfl)) (mr22 _ (List.mem_of_getElem? (i := 23) rfl)) (mr1 _ (List.mem_of_getElem? (i := 5) rfl)) (mr23 _ (List.mem_of_getElem? (i := 0) rfl)))) rfl rfl rfl (by decide +kernel) ⟨Nat.le_of_ble_eq_true rfl, Nat.le_of_ble_eq_true rfl⟩) (Wd.preV zo hA hZ hw hK hs.1 hs.2.1 rfl) rfl rfl hl.1 rfl (lv_room (Nat.le_of_ble_eq_true rfl)) dX10_count_7 ⟨Nat.le_of_ble_eq_true rfl, Nat.le_of_ble_eq_true rfl⟩) (fun x_2 L1 f1 H locs lx_2 ux_2 ex_2 hw => ?_)
  obtain ⟨rfl, rfl, ex_2⟩ := ex_2
  refine q_if_eq (tgt := 32) hx hb dX10_count_10 (by decide) ⟨lx_2, ux_2⟩ (fun c10 => ?_) (fun c10 => ?_)
  · refine q_iconst hx hb dX10_count_32 ?_
    exact q_ret_i hx hb hr hlocks hK hAe hw ⟨by decide, by decide⟩ (Nat.le_of_ble_eq_true rfl) (Nat.le_of_ble_eq_true rfl) dX10_count_33 (by exact ⟨rfl, hs, hE, by first | trivial | omega⟩)
  · refine lv_iload_n hx hb dX10_count_13 rfl (lv_at hl 2 rfl) ?_
    refine q_call_i hA hK hw (va_runS (As := [.int (iI x2)]) (rest := []) ⟨hx, hb, hml, hown, hts⟩ (c_X10_isDay zo l D cy L0 f_1 x2 lx2 ux2 _) (va_cwS 1 hts (gT (inS (mr23 _ (List.mem_of_getElem? (i := 21) rfl)) (mr23 _ (List.mem_of_getElem? (i := 22) rfl)) (mr1 _ (List.mem_of_getElem? (i := 5) rfl)) (mr23 _ (List.mem_of_getElem? (i := 23) rfl)))) rfl rfl rfl (by decide +kernel) ⟨Nat.le_of_ble_eq_true rfl, Nat.le_of_ble_eq_true rfl⟩) (Wd.preS zo hA hZ hw hK) rfl rfl hl.1 rfl (lv_room (Nat.le_of_ble_eq_true rfl)) dX10_count_14 ⟨Nat.le_of_ble_eq_true rfl, Nat.le_of_ble_eq_true rfl⟩) (fun x_3 L1 f1 H locs lx_3 ux_3 ex_3 hw => ?_)
    obtain ⟨rfl, rfl, ex_3⟩ := ex_3
    refine q_if_eq (tgt := 32) hx hb dX10_count_17 (by decide) ⟨lx_3, ux_3⟩ (fun c17 => ?_) (fun c17 => ?_)
    · refine q_iconst hx hb dX10_count_32 ?_
      exact q_ret_i hx hb hr hlocks hK hAe hw ⟨by decide, by decide⟩ (Nat.le_of_ble_eq_true rfl) (Nat.le_of_ble_eq_true rfl) dX10_count_33 (by exact ⟨rfl, hs, hE, by first | trivial | omega⟩)
    · refine lv_iload_n hx hb dX10_count_20 rfl (lv_at hl 3 rfl) ?_
      refine q_call_i hA hK hw (va_runS (As := [.int (iI x3)]) (rest := []) ⟨hx, hb, hml, hown, hts⟩ (c_X10_isDay zo l D cy L0 f_1 x3 lx3 ux3 _) (va_cwS 1 hts (gT (inS (mr23 _ (List.mem_of_getElem? (i := 21) rfl)) (mr23 _ (List.mem_of_getElem? (i := 22) rfl)) (mr1 _ (List.mem_of_getElem? (i := 5) rfl)) (mr23 _ (List.mem_of_getElem? (i := 23) rfl)))) rfl rfl rfl (by decide +kernel) ⟨Nat.le_of_ble_eq_true rfl, Nat.le_of_ble_eq_true rfl⟩) (Wd.preS zo hA hZ hw hK) rfl rfl hl.1 rfl (lv_room (Nat.le_of_ble_eq_true rfl)) dX10_count_21 ⟨Nat.le_of_ble_eq_true rfl, Nat.le_of_ble_eq_true rfl⟩) (fun x_4 L1 f1 H locs lx_4 ux_4 ex_4 hw => ?_)
      obtain ⟨rfl, rfl, ex_4⟩ := ex_4
      refine q_if_eq (tgt := 32) hx hb dX10_count_24 (by decide) ⟨lx_4, ux_4⟩ (fun c24 => ?_) (fun c24 => ?_)
      · refine q_iconst hx hb dX10_count_32 ?_
        exact q_ret_i hx hb hr hlocks hK hAe hw ⟨by decide, by decide⟩ (Nat.le_of_ble_eq_true rfl) (Nat.le_of_ble_eq_true rfl) dX10_count_33 (by exact ⟨rfl, hs, hE, by first | trivial | omega⟩)
      · refine lv_iload_n hx hb dX10_count_27 rfl (lv_at hl 3 rfl) ?_
        refine lv_iload_n hx hb dX10_count_28 rfl (lv_at hl 2 rfl) ?_
        refine q_icmp_ge (tgt := 34) hx hb dX10_count_29 (by decide) ⟨lx3, ux3⟩ ⟨lx2, ux2⟩ (fun c29 => ?_) (fun c29 => ?_)
        · refine lv_aload_n hx hb dX10_count_34 rfl (lv_at hl 0 rfl) ?_
          refine lv_iload_n hx hb dX10_count_35 rfl (lv_at hl 1 rfl) ?_
          refine q_iconst hx hb dX10_count_36 ?_
          refine q_call_v hA hK hw (va_runV (As := [.int (iI x1), .int (iI 0)]) (rest := []) ⟨hx, hb, hml, hown, hts⟩ (c_X10_laysTimes zo l D cy L0 f_1 a0 x1 lx1 ux1 0 (by decide) (by decide) ad hs (by first | exact hv | exact hv.kp hE (by decide) (by decide)) (by omega) (by omega) (by omega) (by omega) _) (cwV 2 hts (gT (inV (mr30 _ (List.mem_of_getElem? (i := 11) rfl)) (mr30 _ (List.mem_of_getElem? (i := 12) rfl)) (mr30 _ (List.mem_of_getElem? (i := 13) rfl)) (mr1 _ (List.mem_of_getElem? (i := 5) rfl)) (mr30 _ (List.mem_of_getElem? (i := 14) rfl)))) rfl rfl rfl (by decide +kernel) ⟨Nat.le_of_ble_eq_true rfl, Nat.le_of_ble_eq_true rfl⟩) (Wd.preV zo hA hZ hw hK hs.1 hs.2.1 rfl) rfl rfl hl.1 rfl (lv_room (Nat.le_of_ble_eq_true rfl)) dX10_count_37 ⟨Nat.le_of_ble_eq_true rfl, Nat.le_of_ble_eq_true rfl⟩) (fun L1 f_6 H locs ex_5 hw => ?_)
          obtain ⟨rfl, hs, hX, ex_5⟩ := ex_5
          have hE := hE.trans (hX.mono (rs' := [11, 12, 13]) (fs' := [10]) (by decide) (by decide))
          have t5_f_6 : fI f_6 a0 5 = fI f_1 a0 5 := hX.2 5 (by decide)
          obtain ⟨px_5a, px_5b, px_5c, lwx_5⟩ := ex_5
          refine q_iconst hx hb dX10_count_40 ?_
          refine lv_istore (lv' := [(4, .int (iI 0)), (0, .ref a0), (1, .int (iI x1)), (2, .int (iI x2)), (3, .int (iI x3))]) hx hb dX10_count_41 hl (by decide) rfl (fun ls hl => ?_)
          refine q_iconst hx hb dX10_count_43 ?_
          refine lv_istore (lv' := [(5, .int (iI 0)), (4, .int (iI 0)), (0, .ref a0), (1, .int (iI x1)), (2, .int (iI x2)), (3, .int (iI x3))]) hx hb dX10_count_44 hl (by decide) rfl (fun ls hl => ?_)
          have J46 : ∀ (n46 : Nat) (y4_46 : Int) (ly4_46 : -2147483648 ≤ y4_46) (uy4_46 : y4_46 ≤ 2147483647) (y5_46 : Int) (ly5_46 : -2147483648 ≤ y5_46) (uy5_46 : y5_46 ≤ 2147483647) (i1 : 0 ≤ y5_46) (hn46 : ((2147483647 : Int) - y5_46).toNat < n46) (H : Heap) (locs : List Loc) (ls : Array Slot) (hw : Wd D A s.heap L0 f_6 H locs) (hl : lv_has ls 6 [(0, .ref a0), (2, .int (iI x2)), (3, .int (iI x3)), (4, .int (iI y4_46)), (5, .int (iI y5_46))]), W p l e ({ frames := 4, cells := 0, slots := 0, locals := 103 } : Room) s m ([.ref a0, .int (iI x1), .int (iI x2), .int (iI x3)] : List Value).toArray below meth c H locs (0 + 0 + 0 + 0 + 0) (0 + 0 + 0 + 0 + 0) (MQ below (Qi D (tq cy) L0 f0 s.heap.size (fun (r : Int) (L1 : List Nat) (f1 : Nat → va_E) => L0 = L1 ∧ MS cy L0 f1 a0 ad ∧ Kp a0 ad [11, 12, 13] [10] f0 f1 ∧ (True))) ([.ref a0, .int (iI x1), .int (iI x2), .int (iI x3)] : List Value).toArray s 0 0 A) (F0 m 46 ls []) := by
            intro n46
            induction n46 with
            | zero => intro y4_46 ly4_46 uy4_46 y5_46 ly5_46 uy5_46 i1 hn46; exact absurd hn46 (Nat.not_lt_zero _)
            | succ n46 ih46 =>
              intro y4_46 ly4_46 uy4_46 y5_46 ly5_46 uy5_46 i1 hn46 H locs ls hw hl
              refine lv_iload hx hb dX10_count_46 (lv_at hl 4 rfl) ?_
              refine lv_aload_n hx hb dX10_count_48 rfl (lv_at hl 0 rfl) ?_
              refine q_getr (ci := 8) (C := RX10) (T := TX10) (N := 26) hx hb hts (fun w h => List.mem_cons_of_mem _ (mfX100 w h)) hown hK hw hs.1 hs.2.1 rfl 13 (by decide) (hts _ (List.mem_cons_of_mem _ (mr3 _ (List.mem_of_getElem? (i := 21) rfl)))) (fun _ h => h) rfl (hs.2.2.1 13 rfl).1 dX10_count_49 ?_
              refine q_iconst hx hb dX10_count_52 ?_
              refine q_iald hx hb hK hw (hs.2.2.1 13 rfl).2.1 1 (hs.2.2.1 13 rfl).2.2 rfl ⟨by decide, by decide⟩ (by omega) (by show _ < ((2 : Nat) : Int); omega) dX10_count_53 (fun x_7 lx_7 ux_7 ex_7 => ?_)
              refine q_icmp_ge (tgt := 85) hx hb dX10_count_54 (by decide) ⟨ly5_46, uy5_46⟩ ⟨lx_7, ux_7⟩ (fun c54 => ?_) (fun c54 => ?_)
              · refine lv_iload hx hb dX10_count_85 (lv_at hl 3 rfl) ?_
                exact q_ret_i hx hb hr hlocks hK hAe hw ⟨ly4_46, uy4_46⟩ (Nat.le_of_ble_eq_true rfl) (Nat.le_of_ble_eq_true rfl) dX10_count_87 (by exact ⟨rfl, hs, hE, by first | trivial | omega⟩)
              · refine lv_aload_n hx hb dX10_count_57 rfl (lv_at hl 0 rfl) ?_
                refine q_getr (ci := 8) (C := RX10) (T := TX10) (N := 26) hx hb hts (fun w h => List.mem_cons_of_mem _ (mfX100 w h)) hown hK hw hs.1 hs.2.1 rfl 11 (by decide) (hts _ (List.mem_cons_of_mem _ (mr3 _ (List.mem_of_getElem? (i := 19) rfl)))) (fun _ h => h) rfl (hs.2.2.1 11 rfl).1 dX10_count_58 ?_
                refine lv_iload hx hb dX10_count_61 (lv_at hl 4 rfl) ?_
                refine q_iald hx hb hK hw (hs.2.2.1 11 rfl).2.1 1 (hs.2.2.1 11 rfl).2.2 rfl ⟨ly5_46, uy5_46⟩ (by omega) (by show _ < ((73050 : Nat) : Int); omega) dX10_count_63 (fun x_8 lx_8 ux_8 ex_8 => ?_)
                refine q_sipush hx hb dX10_count_64 rfl ?_
                first | refine q_idiv hx hb dX10_count_67 ⟨lx_8, ux_8⟩ ⟨by decide, by decide⟩ (by omega) (by omega) (fun x_9 lx_9 ux_9 ex_9 => ?_) | refine q_idivw hx hb dX10_count_67 ⟨lx_8, ux_8⟩ ⟨by decide, by decide⟩ (by omega) (fun x_9 lx_9 ux_9 ex_9 => ?_)
                refine lv_iload_n hx hb dX10_count_68 rfl (lv_at hl 1 rfl) ?_
                refine lv_iload_n hx hb dX10_count_69 rfl (lv_at hl 2 rfl) ?_
                refine q_call_i hA hK hw (va_runS (As := [.int (iI x_9), .int (iI x2), .int (iI x3)]) (rest := []) ⟨hx, hb, hml, hown, hts⟩ (c_X10_within zo l D cy L0 f_6 x_9 lx_9 ux_9 x2 lx2 ux2 x3 lx3 ux3 _) (va_cwS 3 hts (gT (inS (mr5 _ (List.mem_of_getElem? (i := 9) rfl)) (mr5 _ (List.mem_of_getElem? (i := 10) rfl)) (mr1 _ (List.mem_of_getElem? (i := 5) rfl)) (mr5 _ (List.mem_of_getElem? (i := 11) rfl)))) rfl rfl rfl (by decide +kernel) ⟨Nat.le_of_ble_eq_true rfl, Nat.le_of_ble_eq_true rfl⟩) (Wd.preS zo hA hZ hw hK) rfl rfl hl.1 rfl (lv_room (Nat.le_of_ble_eq_true rfl)) dX10_count_70 ⟨Nat.le_of_ble_eq_true rfl, Nat.le_of_ble_eq_true rfl⟩) (fun x_10 L1 f1 H locs lx_10 ux_10 ex_10 hw => ?_)
                obtain ⟨rfl, rfl, ex_10⟩ := ex_10
                have J79 : ∀ (z4_79 : Int) (lz4_79 : -2147483648 ≤ z4_79) (uz4_79 : z4_79 ≤ 2147483647) (H : Heap) (locs : List Loc) (ls : Array Slot) (hw : Wd D A s.heap L0 f_6 H locs) (hl : lv_has ls 6 [(0, .ref a0), (2, .int (iI x2)), (3, .int (iI x3)), (4, .int (iI z4_79)), (5, .int (iI y5_46))]), W p l e ({ frames := 4, cells := 0, slots := 0, locals := 103 } : Room) s m ([.ref a0, .int (iI x1), .int (iI x2), .int (iI x3)] : List Value).toArray below meth c H locs (0 + 0 + 0 + 0 + 0 + 0) (0 + 0 + 0 + 0 + 0 + 0) (MQ below (Qi D (tq cy) L0 f0 s.heap.size (fun (r : Int) (L1 : List Nat) (f1 : Nat → va_E) => L0 = L1 ∧ MS cy L0 f1 a0 ad ∧ Kp a0 ad [11, 12, 13] [10] f0 f1 ∧ (True))) ([.ref a0, .int (iI x1), .int (iI x2), .int (iI x3)] : List Value).toArray s 0 0 A) (F0 m 79 ls []) := by
                  intro z4_79 lz4_79 uz4_79 H locs ls hw hl
                  obtain ⟨x_11, lx_11, ux_11, hx_11, ex_11⟩ := q_inc y5_46 (1)
                  try (replace ex_11 : x_11 = y5_46 + (1) := by omega)
                  refine lv_iinc (v := iI x_11) (lv' := [(5, .int (iI x_11)), (0, .ref a0), (2, .int (iI x2)), (3, .int (iI x3)), (4, .int (iI z4_79))]) hx hb dX10_count_79 hl (k := 4) rfl hx_11 (by decide) rfl (fun ls hl => ?_)
                  refine lv_goto (tgt := 46) hx hb dX10_count_82 (by decide) ?_
                  exact ih46 z4_79 lz4_79 uz4_79 x_11 lx_11 ux_11 (by omega) (by omega) _ _ _ hw (lv_sub hl [1, 2, 3, 4, 0] rfl)
                refine q_if_eq (tgt := 79) hx hb dX10_count_73 (by decide) ⟨lx_10, ux_10⟩ (fun c73 => ?_) (fun c73 => ?_)
                · exact J79 y4_46 ly4_46 uy4_46 _ _ _ hw (lv_sub hl [0, 1, 2, 3, 4] rfl)
                · obtain ⟨x_12, lx_12, ux_12, hx_12, ex_12⟩ := q_inc y4_46 (1)
                  try (replace ex_12 : x_12 = y4_46 + (1) := by omega)
                  refine lv_iinc (v := iI x_12) (lv' := [(4, .int (iI x_12)), (0, .ref a0), (2, .int (iI x2)), (3, .int (iI x3)), (5, .int (iI y5_46))]) hx hb dX10_count_76 hl (k := 3) rfl hx_12 (by decide) rfl (fun ls hl => ?_)
                  exact J79 x_12 lx_12 ux_12 _ _ _ hw (lv_sub hl [1, 2, 3, 0, 4] rfl)
          exact J46 ((((2147483647 : Int) - 0).toNat) + 1) 0 (by decide) (by decide) 0 (by decide) (by decide) (by omega) (by omega) _ _ _ hw (lv_sub hl [2, 4, 5, 1, 0] rfl)
        · refine q_iconst hx hb dX10_count_32 ?_
          exact q_ret_i hx hb hr hlocks hK hAe hw ⟨by decide, by decide⟩ (Nat.le_of_ble_eq_true rfl) (Nat.le_of_ble_eq_true rfl) dX10_count_33 (by exact ⟨rfl, hs, hE, by first | trivial | omega⟩)
set_option maxHeartbeats 4000000 in
set_option maxRecDepth 100000 in
theorem c_X10_comesOn {Z : Zt} (zo : Zok Z) (l : Launch) (D : va_G) (cy : Cy) (L0 : List Nat) (f0 : Nat → va_E) (a0 : Nat) (x1 : Int) (lx1 : -2147483648 ≤ x1) (ux1 : x1 ≤ 2147483647) (x2 : Int) (lx2 : -2147483648 ≤ x2) (ux2 : x2 ≤ 2147483647) (x3 : Int) (lx3 : -2147483648 ≤ x3) (ux3 : x3 ≤ 2147483647) (ad : Nat → Nat) (hs : MS cy L0 f0 a0 ad) (h1 : 0 ≤ fI f0 a0 24) (h2 : fI f0 a0 24 ≤ 1099) : Cv Z l yX10_comesOn (Cond.code yX10_comesOn cX10_comesOn 6 none :: TB) ({ frames := 0, cells := 0, slots := 0, locals := 0 } : Room) 0 0 D (tq cy) [.ref a0, .int (iI x1), .int (iI x2), .int (iI x3)] L0 f0 (fun (L1 : List Nat) (f1 : Nat → va_E) => L0 = L1 ∧ MS cy L0 f1 a0 ad ∧ Kp a0 ad [23] [24] f0 f1 ∧ (fI f1 a0 24 = fI f0 a0 24 + 1)) := by
  refine Cv.enter (cc := cX10_comesOn) (n := 6) rfl (plainFor_of_name (by decide)) (Nat.le_of_ble_eq_true rfl) ?_
  intro p e s m below meth c ls A hx hb hr hts hown hlocks hnm hml hK hA hAe hw hZ hl
  have hown : s.vm.findClass RX10 = some m.cls := hown
  have hl : lv_has ls 6 [(0, .ref a0), (1, .int (iI x1)), (2, .int (iI x2)), (3, .int (iI x3))] := hl
  have hN : ZN s := (zo.2.2.2.2 _ _ _ hZ).2
  have hE : Kp a0 ad [23] [24] f0 f0 := Kp.refl _ _ _ _ _
  refine lv_aload_n hx hb dX10_comesOn_0 rfl (lv_at hl 0 rfl) ?_
  refine q_geti (ci := 8) (C := RX10) (T := TX10) (N := 26) hx hb hts (fun w h => List.mem_cons_of_mem _ (mfX100 w h)) hown hK hw hs.1 hs.2.1 rfl 24 (by decide) (hts _ (List.mem_cons_of_mem _ (mr32 _ (List.mem_of_getElem? (i := 22) rfl)))) (fun _ h => h) rfl dX10_comesOn_1 (fun x_1 lx_1 ux_1 ex_1 => ?_)
  refine lv_istore (lv' := [(4, .int (iI x_1)), (0, .ref a0), (1, .int (iI x1)), (2, .int (iI x2)), (3, .int (iI x3))]) hx hb dX10_comesOn_4 hl (by decide) rfl (fun ls hl => ?_)
  have J6 : ∀ (n6 : Nat) (y4_6 : Int) (ly4_6 : -2147483648 ≤ y4_6) (uy4_6 : y4_6 ≤ 2147483647) (L : List Nat) (fw6 : Nat → va_E) (hs : MS cy L0 fw6 a0 ad) (hE : Kp a0 ad [23] [24] f0 fw6) (i1 : 0 ≤ y4_6) (i2 : y4_6 ≤ fI f0 a0 24) (i3 : fI fw6 a0 24 = fI f0 a0 24) (hn6 : (y4_6 + (2147483648 : Int)).toNat < n6) (H : Heap) (locs : List Loc) (ls : Array Slot) (hw : Wd D A s.heap L0 fw6 H locs) (hl : lv_has ls 6 [(0, .ref a0), (1, .int (iI x1)), (2, .int (iI x2)), (3, .int (iI x3)), (4, .int (iI y4_6))]), W p l e ({ frames := 0, cells := 0, slots := 0, locals := 0 } : Room) s m ([.ref a0, .int (iI x1), .int (iI x2), .int (iI x3)] : List Value).toArray below meth c H locs (0) (0) (MQ below (Qv D (tq cy) L0 f0 s.heap.size (fun (L1 : List Nat) (f1 : Nat → va_E) => L0 = L1 ∧ MS cy L0 f1 a0 ad ∧ Kp a0 ad [23] [24] f0 f1 ∧ (fI f1 a0 24 = fI f0 a0 24 + 1))) ([.ref a0, .int (iI x1), .int (iI x2), .int (iI x3)] : List Value).toArray s 0 0 A) (F0 m 6 ls []) := by
    intro n6
    induction n6 with
    | zero => intro y4_6 ly4_6 uy4_6 L fw6 hs hE i1 i2 i3 hn6; exact absurd hn6 (Nat.not_lt_zero _)
    | succ n6 ih6 =>
      intro y4_6 ly4_6 uy4_6 L fw6 hs hE i1 i2 i3 hn6 H locs ls hw hl
      refine lv_iload hx hb dX10_comesOn_6 (lv_at hl 4 rfl) ?_
      have J73 : ∀ (H : Heap) (locs : List Loc) (ls : Array Slot) (hw : Wd D A s.heap L0 fw6 H locs) (hl : lv_has ls 6 [(0, .ref a0), (1, .int (iI x1)), (2, .int (iI x2)), (3, .int (iI x3)), (4, .int (iI y4_6))]), W p l e ({ frames := 0, cells := 0, slots := 0, locals := 0 } : Room) s m ([.ref a0, .int (iI x1), .int (iI x2), .int (iI x3)] : List Value).toArray below meth c H locs (0) (0) (MQ below (Qv D (tq cy) L0 f0 s.heap.size (fun (L1 : List Nat) (f1 : Nat → va_E) => L0 = L1 ∧ MS cy L0 f1 a0 ad ∧ Kp a0 ad [23] [24] f0 f1 ∧ (fI f1 a0 24 = fI f0 a0 24 + 1))) ([.ref a0, .int (iI x1), .int (iI x2), .int (iI x3)] : List Value).toArray s 0 0 A) (F0 m 73 ls []) := by
        intro H locs ls hw hl
        refine lv_aload_n hx hb dX10_comesOn_73 rfl (lv_at hl 0 rfl) ?_
        refine q_getr (ci := 8) (C := RX10) (T := TX10) (N := 26) hx hb hts (fun w h => List.mem_cons_of_mem _ (mfX100 w h)) hown hK hw hs.1 hs.2.1 rfl 23 (by decide) (hts _ (List.mem_cons_of_mem _ (mr3 _ (List.mem_of_getElem? (i := 23) rfl)))) (fun _ h => h) rfl (hs.2.2.1 23 rfl).1 dX10_comesOn_74 ?_
        refine q_iconst hx hb dX10_comesOn_77 ?_
        refine lv_iload hx hb dX10_comesOn_78 (lv_at hl 4 rfl) ?_
        first | refine q_imul hx hb dX10_comesOn_80 ⟨by omega, by omega⟩ (fun x_2 lx_2 ux_2 ex_2 => ?_) | refine q_imulw hx hb dX10_comesOn_80 (fun x_2 lx_2 ux_2 ex_2 => ?_)
        refine lv_iload_n hx hb dX10_comesOn_81 rfl (lv_at hl 1 rfl) ?_
        refine q_iast hx hb hK hw (hs.2.2.1 23 rfl).2.1 1 (hs.2.2.1 23 rfl).2.2 rfl ⟨lx_2, ux_2⟩ (by omega) (by show _ < ((3300 : Nat) : Int); omega) dX10_comesOn_82 (fun H locs hw => ?_)
        obtain ⟨f_3, ef_3⟩ : ∃ g : Nat → va_E, g = aU fw6 (ad 23) x_2 (iI x1) := ⟨_, rfl⟩
        have t24_f_3 : fI f_3 a0 24 = fI fw6 a0 24 := by rw [ef_3]; exact hs.fI_aU rfl _ _
        have hE := hE.trans (show Kp a0 ad [23] [24] fw6 f_3 by rw [ef_3]; exact Kp_aU hs rfl (by decide))
        have hs : MS cy L0 f_3 a0 ad := by rw [ef_3]; exact MS_aU hs rfl
        rw [← ef_3] at hw
        refine lv_aload_n hx hb dX10_comesOn_83 rfl (lv_at hl 0 rfl) ?_
        refine q_getr (ci := 8) (C := RX10) (T := TX10) (N := 26) hx hb hts (fun w h => List.mem_cons_of_mem _ (mfX100 w h)) hown hK hw hs.1 hs.2.1 rfl 23 (by decide) (hts _ (List.mem_cons_of_mem _ (mr3 _ (List.mem_of_getElem? (i := 23) rfl)))) (fun _ h => h) rfl (hs.2.2.1 23 rfl).1 dX10_comesOn_84 ?_
        refine q_iconst hx hb dX10_comesOn_87 ?_
        refine lv_iload hx hb dX10_comesOn_88 (lv_at hl 4 rfl) ?_
        first | refine q_imul hx hb dX10_comesOn_90 ⟨by omega, by omega⟩ (fun x_4 lx_4 ux_4 ex_4 => ?_) | refine q_imulw hx hb dX10_comesOn_90 (fun x_4 lx_4 ux_4 ex_4 => ?_)
        refine q_iconst hx hb dX10_comesOn_91 ?_
        first | refine q_iadd hx hb dX10_comesOn_92 ⟨by omega, by omega⟩ (fun x_5 lx_5 ux_5 ex_5 => ?_) | refine q_iaddw hx hb dX10_comesOn_92 (fun x_5 lx_5 ux_5 ex_5 => ?_)
        refine lv_iload_n hx hb dX10_comesOn_93 rfl (lv_at hl 2 rfl) ?_
        refine q_iast hx hb hK hw (hs.2.2.1 23 rfl).2.1 1 (hs.2.2.1 23 rfl).2.2 rfl ⟨lx_5, ux_5⟩ (by omega) (by show _ < ((3300 : Nat) : Int); omega) dX10_comesOn_94 (fun H locs hw => ?_)
        obtain ⟨f_6, ef_6⟩ : ∃ g : Nat → va_E, g = aU f_3 (ad 23) x_5 (iI x2) := ⟨_, rfl⟩
        have t24_f_6 : fI f_6 a0 24 = fI f_3 a0 24 := by rw [ef_6]; exact hs.fI_aU rfl _ _
        have hE := hE.trans (show Kp a0 ad [23] [24] f_3 f_6 by rw [ef_6]; exact Kp_aU hs rfl (by decide))
        have hs : MS cy L0 f_6 a0 ad := by rw [ef_6]; exact MS_aU hs rfl
        rw [← ef_6] at hw
        refine lv_aload_n hx hb dX10_comesOn_95 rfl (lv_at hl 0 rfl) ?_
        refine q_getr (ci := 8) (C := RX10) (T := TX10) (N := 26) hx hb hts (fun w h => List.mem_cons_of_mem _ (mfX100 w h)) hown hK hw hs.1 hs.2.1 rfl 23 (by decide) (hts _ (List.mem_cons_of_mem _ (mr3 _ (List.mem_of_getElem? (i := 23) rfl)))) (fun _ h => h) rfl (hs.2.2.1 23 rfl).1 dX10_comesOn_96 ?_
        refine q_iconst hx hb dX10_comesOn_99 ?_
        refine lv_iload hx hb dX10_comesOn_100 (lv_at hl 4 rfl) ?_
        first | refine q_imul hx hb dX10_comesOn_102 ⟨by omega, by omega⟩ (fun x_7 lx_7 ux_7 ex_7 => ?_) | refine q_imulw hx hb dX10_comesOn_102 (fun x_7 lx_7 ux_7 ex_7 => ?_)
        refine q_iconst hx hb dX10_comesOn_103 ?_
        first | refine q_iadd hx hb dX10_comesOn_104 ⟨by omega, by omega⟩ (fun x_8 lx_8 ux_8 ex_8 => ?_) | refine q_iaddw hx hb dX10_comesOn_104 (fun x_8 lx_8 ux_8 ex_8 => ?_)
        refine lv_iload_n hx hb dX10_comesOn_105 rfl (lv_at hl 3 rfl) ?_
        refine q_iast hx hb hK hw (hs.2.2.1 23 rfl).2.1 1 (hs.2.2.1 23 rfl).2.2 rfl ⟨lx_8, ux_8⟩ (by omega) (by show _ < ((3300 : Nat) : Int); omega) dX10_comesOn_106 (fun H locs hw => ?_)
        obtain ⟨f_9, ef_9⟩ : ∃ g : Nat → va_E, g = aU f_6 (ad 23) x_8 (iI x3) := ⟨_, rfl⟩
        have t24_f_9 : fI f_9 a0 24 = fI f_6 a0 24 := by rw [ef_9]; exact hs.fI_aU rfl _ _
        have hE := hE.trans (show Kp a0 ad [23] [24] f_6 f_9 by rw [ef_9]; exact Kp_aU hs rfl (by decide))
        have hs : MS cy L0 f_9 a0 ad := by rw [ef_9]; exact MS_aU hs rfl
        rw [← ef_9] at hw
        refine lv_aload_n hx hb dX10_comesOn_107 rfl (lv_at hl 0 rfl) ?_
        refine lv_dup hx hb dX10_comesOn_108 rfl ?_
        refine q_geti (ci := 8) (C := RX10) (T := TX10) (N := 26) hx hb hts (fun w h => List.mem_cons_of_mem _ (mfX100 w h)) hown hK hw hs.1 hs.2.1 rfl 24 (by decide) (hts _ (List.mem_cons_of_mem _ (mr32 _ (List.mem_of_getElem? (i := 22) rfl)))) (fun _ h => h) rfl dX10_comesOn_109 (fun x_10 lx_10 ux_10 ex_10 => ?_)
        refine q_iconst hx hb dX10_comesOn_112 ?_
        first | refine q_iadd hx hb dX10_comesOn_113 ⟨by omega, by omega⟩ (fun x_11 lx_11 ux_11 ex_11 => ?_) | refine q_iaddw hx hb dX10_comesOn_113 (fun x_11 lx_11 ux_11 ex_11 => ?_)
        refine q_puti (ci := 8) (C := RX10) (T := TX10) (N := 26) hx hb hts (fun w h => List.mem_cons_of_mem _ (mfX100 w h)) hown hK hw hs.1 hs.2.1 rfl 24 (by decide) (hts _ (List.mem_cons_of_mem _ (mr32 _ (List.mem_of_getElem? (i := 22) rfl)))) (fun _ h => h) tyX10 tyX10_ok nmX10 rfl (ty := .int) (by decide +kernel) rfl rfl dX10_comesOn_114 (fun H locs hw => ?_)
        obtain ⟨f_12, ef_12⟩ : ∃ g : Nat → va_E, g = pU f_9 a0 24 (.int (iI x_11)) := ⟨_, rfl⟩
        have v24_f_12 : fI f_12 a0 24 = x_11 := by rw [ef_12]; exact fI_pU_self hs.2.1 rfl ⟨lx_11, ux_11⟩
        have hE := hE.trans (show Kp a0 ad [23] [24] f_9 f_12 by rw [ef_12]; exact Kp_pU hs (by decide))
        have hs : MS cy L0 f_12 a0 ad := by rw [ef_12]; exact MS_pU hs rfl
        rw [← ef_12] at hw
        exact q_ret_v hx hb hr hlocks hK hAe hw (Nat.le_of_ble_eq_true rfl) (Nat.le_of_ble_eq_true rfl) dX10_comesOn_117 (by exact ⟨rfl, hs, hE, by first | trivial | omega⟩)
      refine q_if_le (tgt := 73) hx hb dX10_comesOn_8 (by decide) ⟨ly4_6, uy4_6⟩ (fun c8 => ?_) (fun c8 => ?_)
      · exact J73 _ _ _ hw (lv_sub hl [0, 1, 2, 3, 4] rfl)
      · refine lv_aload_n hx hb dX10_comesOn_11 rfl (lv_at hl 0 rfl) ?_
        refine q_getr (ci := 8) (C := RX10) (T := TX10) (N := 26) hx hb hts (fun w h => List.mem_cons_of_mem _ (mfX100 w h)) hown hK hw hs.1 hs.2.1 rfl 23 (by decide) (hts _ (List.mem_cons_of_mem _ (mr3 _ (List.mem_of_getElem? (i := 23) rfl)))) (fun _ h => h) rfl (hs.2.2.1 23 rfl).1 dX10_comesOn_12 ?_
        refine q_iconst hx hb dX10_comesOn_15 ?_
        refine lv_iload hx hb dX10_comesOn_16 (lv_at hl 4 rfl) ?_
        first | refine q_imul hx hb dX10_comesOn_18 ⟨by omega, by omega⟩ (fun x_13 lx_13 ux_13 ex_13 => ?_) | refine q_imulw hx hb dX10_comesOn_18 (fun x_13 lx_13 ux_13 ex_13 => ?_)
        refine q_iconst hx hb dX10_comesOn_19 ?_
        first | refine q_isub hx hb dX10_comesOn_20 ⟨by omega, by omega⟩ (fun x_14 lx_14 ux_14 ex_14 => ?_) | refine q_isubw hx hb dX10_comesOn_20 (fun x_14 lx_14 ux_14 ex_14 => ?_)
        refine q_iald hx hb hK hw (hs.2.2.1 23 rfl).2.1 1 (hs.2.2.1 23 rfl).2.2 rfl ⟨lx_14, ux_14⟩ (by omega) (by show _ < ((3300 : Nat) : Int); omega) dX10_comesOn_21 (fun x_15 lx_15 ux_15 ex_15 => ?_)
        refine lv_iload_n hx hb dX10_comesOn_22 rfl (lv_at hl 3 rfl) ?_
        refine q_icmp_le (tgt := 73) hx hb dX10_comesOn_23 (by decide) ⟨lx_15, ux_15⟩ ⟨lx3, ux3⟩ (fun c23 => ?_) (fun c23 => ?_)
        · exact J73 _ _ _ hw (lv_sub hl [0, 1, 2, 3, 4] rfl)
        · refine q_iconst hx hb dX10_comesOn_26 ?_
          refine lv_istore (lv' := [(5, .int (iI 0)), (0, .ref a0), (1, .int (iI x1)), (2, .int (iI x2)), (3, .int (iI x3)), (4, .int (iI y4_6))]) hx hb dX10_comesOn_27 hl (by decide) rfl (fun ls hl => ?_)
          have J29 : ∀ (n29 : Nat) (y5_29 : Int) (ly5_29 : -2147483648 ≤ y5_29) (uy5_29 : y5_29 ≤ 2147483647) (L : List Nat) (fw29 : Nat → va_E) (hs : MS cy L0 fw29 a0 ad) (hE : Kp a0 ad [23] [24] f0 fw29) (j1 : 0 ≤ y5_29) (j3 : fI fw29 a0 24 = fI f0 a0 24) (hn29 : ((2147483647 : Int) - y5_29).toNat < n29) (H : Heap) (locs : List Loc) (ls : Array Slot) (hw : Wd D A s.heap L0 fw29 H locs) (hl : lv_has ls 6 [(0, .ref a0), (1, .int (iI x1)), (2, .int (iI x2)), (3, .int (iI x3)), (4, .int (iI y4_6)), (5, .int (iI y5_29))]), W p l e ({ frames := 0, cells := 0, slots := 0, locals := 0 } : Room) s m ([.ref a0, .int (iI x1), .int (iI x2), .int (iI x3)] : List Value).toArray below meth c H locs (0) (0) (MQ below (Qv D (tq cy) L0 f0 s.heap.size (fun (L1 : List Nat) (f1 : Nat → va_E) => L0 = L1 ∧ MS cy L0 f1 a0 ad ∧ Kp a0 ad [23] [24] f0 f1 ∧ (fI f1 a0 24 = fI f0 a0 24 + 1))) ([.ref a0, .int (iI x1), .int (iI x2), .int (iI x3)] : List Value).toArray s 0 0 A) (F0 m 29 ls []) := by
            intro n29
            induction n29 with
            | zero => intro y5_29 ly5_29 uy5_29 L fw29 hs hE j1 j3 hn29; exact absurd hn29 (Nat.not_lt_zero _)
            | succ n29 ih29 =>
              intro y5_29 ly5_29 uy5_29 L fw29 hs hE j1 j3 hn29 H locs ls hw hl
              refine lv_iload hx hb dX10_comesOn_29 (lv_at hl 5 rfl) ?_
              refine q_iconst hx hb dX10_comesOn_31 ?_
              refine q_icmp_ge (tgt := 67) hx hb dX10_comesOn_32 (by decide) ⟨ly5_29, uy5_29⟩ ⟨by decide, by decide⟩ (fun c32 => ?_) (fun c32 => ?_)
              · obtain ⟨x_16, lx_16, ux_16, hx_16, ex_16⟩ := q_inc y4_6 (-1)
                try (replace ex_16 : x_16 = y4_6 + (-1) := by omega)
                refine lv_iinc (v := iI x_16) (lv' := [(4, .int (iI x_16)), (0, .ref a0), (1, .int (iI x1)), (2, .int (iI x2)), (3, .int (iI x3)), (5, .int (iI y5_29))]) hx hb dX10_comesOn_67 hl (k := 4) rfl hx_16 (by decide) rfl (fun ls hl => ?_)
                refine lv_goto (tgt := 6) hx hb dX10_comesOn_70 (by decide) ?_
                exact ih6 x_16 lx_16 ux_16 L0 fw29 hs hE (by omega) (by omega) (by omega) (by omega) _ _ _ hw (lv_sub hl [1, 2, 3, 4, 0] rfl)
              · refine lv_aload_n hx hb dX10_comesOn_35 rfl (lv_at hl 0 rfl) ?_
                refine q_getr (ci := 8) (C := RX10) (T := TX10) (N := 26) hx hb hts (fun w h => List.mem_cons_of_mem _ (mfX100 w h)) hown hK hw hs.1 hs.2.1 rfl 23 (by decide) (hts _ (List.mem_cons_of_mem _ (mr3 _ (List.mem_of_getElem? (i := 23) rfl)))) (fun _ h => h) rfl (hs.2.2.1 23 rfl).1 dX10_comesOn_36 ?_
                refine q_iconst hx hb dX10_comesOn_39 ?_
                refine lv_iload hx hb dX10_comesOn_40 (lv_at hl 4 rfl) ?_
                first | refine q_imul hx hb dX10_comesOn_42 ⟨by omega, by omega⟩ (fun x_17 lx_17 ux_17 ex_17 => ?_) | refine q_imulw hx hb dX10_comesOn_42 (fun x_17 lx_17 ux_17 ex_17 => ?_)
                refine lv_iload hx hb dX10_comesOn_43 (lv_at hl 5 rfl) ?_
                first | refine q_iadd hx hb dX10_comesOn_45 ⟨by omega, by omega⟩ (fun x_18 lx_18 ux_18 ex_18 => ?_) | refine q_iaddw hx hb dX10_comesOn_45 (fun x_18 lx_18 ux_18 ex_18 => ?_)
                refine lv_aload_n hx hb dX10_comesOn_46 rfl (lv_at hl 0 rfl) ?_
                refine q_getr (ci := 8) (C := RX10) (T := TX10) (N := 26) hx hb hts (fun w h => List.mem_cons_of_mem _ (mfX100 w h)) hown hK hw hs.1 hs.2.1 rfl 23 (by decide) (hts _ (List.mem_cons_of_mem _ (mr3 _ (List.mem_of_getElem? (i := 23) rfl)))) (fun _ h => h) rfl (hs.2.2.1 23 rfl).1 dX10_comesOn_47 ?_
                refine q_iconst hx hb dX10_comesOn_50 ?_
                refine lv_iload hx hb dX10_comesOn_51 (lv_at hl 4 rfl) ?_
                first | refine q_imul hx hb dX10_comesOn_53 ⟨by omega, by omega⟩ (fun x_19 lx_19 ux_19 ex_19 => ?_) | refine q_imulw hx hb dX10_comesOn_53 (fun x_19 lx_19 ux_19 ex_19 => ?_)
                refine q_iconst hx hb dX10_comesOn_54 ?_
                first | refine q_isub hx hb dX10_comesOn_55 ⟨by omega, by omega⟩ (fun x_20 lx_20 ux_20 ex_20 => ?_) | refine q_isubw hx hb dX10_comesOn_55 (fun x_20 lx_20 ux_20 ex_20 => ?_)
                refine lv_iload hx hb dX10_comesOn_56 (lv_at hl 5 rfl) ?_
                first | refine q_iadd hx hb dX10_comesOn_58 ⟨by omega, by omega⟩ (fun x_21 lx_21 ux_21 ex_21 => ?_) | refine q_iaddw hx hb dX10_comesOn_58 (fun x_21 lx_21 ux_21 ex_21 => ?_)
                refine q_iald hx hb hK hw (hs.2.2.1 23 rfl).2.1 1 (hs.2.2.1 23 rfl).2.2 rfl ⟨lx_21, ux_21⟩ (by omega) (by show _ < ((3300 : Nat) : Int); omega) dX10_comesOn_59 (fun x_22 lx_22 ux_22 ex_22 => ?_)
                refine q_iast hx hb hK hw (hs.2.2.1 23 rfl).2.1 1 (hs.2.2.1 23 rfl).2.2 rfl ⟨lx_18, ux_18⟩ (by omega) (by show _ < ((3300 : Nat) : Int); omega) dX10_comesOn_60 (fun H locs hw => ?_)
                obtain ⟨f_23, ef_23⟩ : ∃ g : Nat → va_E, g = aU fw29 (ad 23) x_18 (iI x_22) := ⟨_, rfl⟩
                have t24_f_23 : fI f_23 a0 24 = fI fw29 a0 24 := by rw [ef_23]; exact hs.fI_aU rfl _ _
                have hE := hE.trans (show Kp a0 ad [23] [24] fw29 f_23 by rw [ef_23]; exact Kp_aU hs rfl (by decide))
                have hs : MS cy L0 f_23 a0 ad := by rw [ef_23]; exact MS_aU hs rfl
                rw [← ef_23] at hw
                obtain ⟨x_24, lx_24, ux_24, hx_24, ex_24⟩ := q_inc y5_29 (1)
                try (replace ex_24 : x_24 = y5_29 + (1) := by omega)
                refine lv_iinc (v := iI x_24) (lv' := [(5, .int (iI x_24)), (0, .ref a0), (1, .int (iI x1)), (2, .int (iI x2)), (3, .int (iI x3)), (4, .int (iI y4_6))]) hx hb dX10_comesOn_61 hl (k := 5) rfl hx_24 (by decide) rfl (fun ls hl => ?_)
                refine lv_goto (tgt := 29) hx hb dX10_comesOn_64 (by decide) ?_
                exact ih29 x_24 lx_24 ux_24 L0 f_23 hs hE (by omega) (by omega) (by omega) _ _ _ hw (lv_sub hl [1, 2, 3, 4, 5, 0] rfl)
          exact J29 ((((2147483647 : Int) - 0).toNat) + 1) 0 (by decide) (by decide) L0 fw6 hs hE (by omega) (by omega) (by omega) _ _ _ hw (lv_sub hl [1, 2, 3, 4, 5, 0] rfl)
  exact J6 (((x_1 + (2147483648 : Int)).toNat) + 1) x_1 lx_1 ux_1 L0 f0 hs hE (by omega) (by omega) (by omega) (by omega) _ _ _ hw (lv_sub hl [1, 2, 3, 4, 0] rfl)
set_option maxHeartbeats 4000000 in
set_option maxRecDepth 100000 in
theorem c_X10_laysOn {Z : Zt} (zo : Zok Z) (l : Launch) (D : va_G) (cy : Cy) (L0 : List Nat) (f0 : Nat → va_E) (a0 : Nat) (x1 : Int) (lx1 : -2147483648 ≤ x1) (ux1 : x1 ≤ 2147483647) (x2 : Int) (lx2 : -2147483648 ≤ x2) (ux2 : x2 ≤ 2147483647) (x3 : Int) (lx3 : -2147483648 ≤ x3) (ux3 : x3 ≤ 2147483647) (ad : Nat → Nat) (hs : MS cy L0 f0 a0 ad) (hv : MV f0 a0 ad) (h1 : 0 ≤ x2) (h2 : x2 < x3) (h3 : x3 - x2 ≤ 86400) (h4 : x3 ≤ 52596000) : Cv Z l yX10_laysOn (Cond.code yX10_laysOn cX10_laysOn 6 none :: TB) ({ frames := 4, cells := 0, slots := 0, locals := 103 } : Room) 0 0 D (tq cy) [.ref a0, .int (iI x1), .int (iI x2), .int (iI x3)] L0 f0 (fun (L1 : List Nat) (f1 : Nat → va_E) => L0 = L1 ∧ MS cy L0 f1 a0 ad ∧ Kp a0 ad [11, 12, 13, 23] [24] f0 f1 ∧ (0 ≤ fI f1 a0 24 ∧ fI f1 a0 24 ≤ 960)) := by
  refine Cv.enter (cc := cX10_laysOn) (n := 6) rfl (plainFor_of_name (by decide)) (Nat.le_of_ble_eq_true rfl) ?_
  intro p e s m below meth c ls A hx hb hr hts hown hlocks hnm hml hK hA hAe hw hZ hl
  have hown : s.vm.findClass RX10 = some m.cls := hown
  have hl : lv_has ls 6 [(0, .ref a0), (1, .int (iI x1)), (2, .int (iI x2)), (3, .int (iI x3))] := hl
  have hN : ZN s := (zo.2.2.2.2 _ _ _ hZ).2
  have hE : Kp a0 ad [11, 12, 13, 23] [24] f0 f0 := Kp.refl _ _ _ _ _
  have m5 := hv.1
  have m6 := hv.2.1
  refine lv_aload_n hx hb dX10_laysOn_0 rfl (lv_at hl 0 rfl) ?_
  refine q_iconst hx hb dX10_laysOn_1 ?_
  refine q_puti (ci := 8) (C := RX10) (T := TX10) (N := 26) hx hb hts (fun w h => List.mem_cons_of_mem _ (mfX100 w h)) hown hK hw hs.1 hs.2.1 rfl 24 (by decide) (hts _ (List.mem_cons_of_mem _ (mr32 _ (List.mem_of_getElem? (i := 22) rfl)))) (fun _ h => h) tyX10 tyX10_ok nmX10 rfl (ty := .int) (by decide +kernel) rfl rfl dX10_laysOn_2 (fun H locs hw => ?_)
  obtain ⟨f_1, ef_1⟩ : ∃ g : Nat → va_E, g = pU f0 a0 24 (.int (iI 0)) := ⟨_, rfl⟩
  have v24_f_1 : fI f_1 a0 24 = 0 := by rw [ef_1]; exact fI_pU_self hs.2.1 rfl ⟨by decide, by decide⟩
  have t5_f_1 : fI f_1 a0 5 = fI f0 a0 5 := by rw [ef_1]; exact fI_pU (Or.inr (by decide))
  have hE := hE.trans (show Kp a0 ad [11, 12, 13, 23] [24] f0 f_1 by rw [ef_1]; exact Kp_pU hs (by decide))
  have hs : MS cy L0 f_1 a0 ad := by rw [ef_1]; exact MS_pU hs rfl
  rw [← ef_1] at hw
  have Q4 : aI f_1 (ad 4) = aI f0 (ad 4) := funext fun x => hE.1 4 rfl (by decide) x
  refine q_iconst hx hb dX10_laysOn_5 ?_
  refine lv_istore (lv' := [(4, .int (iI 0)), (0, .ref a0), (1, .int (iI x1)), (2, .int (iI x2)), (3, .int (iI x3))]) hx hb dX10_laysOn_6 hl (by decide) rfl (fun ls hl => ?_)
  have J8 : ∀ (n8 : Nat) (y4_8 : Int) (ly4_8 : -2147483648 ≤ y4_8) (uy4_8 : y4_8 ≤ 2147483647) (L : List Nat) (fw8 : Nat → va_E) (hs : MS cy L0 fw8 a0 ad) (hE : Kp a0 ad [11, 12, 13, 23] [24] f0 fw8) (i1 : 0 ≤ y4_8) (i2 : y4_8 ≤ fI f0 a0 5) (u5 : fI fw8 a0 5 = fI f0 a0 5) (o1 : 0 ≤ fI fw8 a0 24) (o2 : fI fw8 a0 24 ≤ 80 * y4_8) (hn8 : ((2147483647 : Int) - y4_8).toNat < n8) (H : Heap) (locs : List Loc) (ls : Array Slot) (hw : Wd D A s.heap L0 fw8 H locs) (hl : lv_has ls 6 [(0, .ref a0), (1, .int (iI x1)), (2, .int (iI x2)), (3, .int (iI x3)), (4, .int (iI y4_8))]), W p l e ({ frames := 4, cells := 0, slots := 0, locals := 103 } : Room) s m ([.ref a0, .int (iI x1), .int (iI x2), .int (iI x3)] : List Value).toArray below meth c H locs (0) (0) (MQ below (Qv D (tq cy) L0 f0 s.heap.size (fun (L1 : List Nat) (f1 : Nat → va_E) => L0 = L1 ∧ MS cy L0 f1 a0 ad ∧ Kp a0 ad [11, 12, 13, 23] [24] f0 f1 ∧ (0 ≤ fI f1 a0 24 ∧ fI f1 a0 24 ≤ 960))) ([.ref a0, .int (iI x1), .int (iI x2), .int (iI x3)] : List Value).toArray s 0 0 A) (F0 m 8 ls []) := by
    intro n8
    induction n8 with
    | zero => intro y4_8 ly4_8 uy4_8 L fw8 hs hE i1 i2 u5 o1 o2 hn8; exact absurd hn8 (Nat.not_lt_zero _)
    | succ n8 ih8 =>
      intro y4_8 ly4_8 uy4_8 L fw8 hs hE i1 i2 u5 o1 o2 hn8 H locs ls hw hl
      have Q4 : aI fw8 (ad 4) = aI f0 (ad 4) := funext fun x => hE.1 4 rfl (by decide) x
      refine lv_iload hx hb dX10_laysOn_8 (lv_at hl 4 rfl) ?_
      refine lv_aload_n hx hb dX10_laysOn_10 rfl (lv_at hl 0 rfl) ?_
      refine q_geti (ci := 8) (C := RX10) (T := TX10) (N := 26) hx hb hts (fun w h => List.mem_cons_of_mem _ (mfX100 w h)) hown hK hw hs.1 hs.2.1 rfl 5 (by decide) (hts _ (List.mem_cons_of_mem _ (mr19 _ (List.mem_of_getElem? (i := 1) rfl)))) (fun _ h => h) rfl dX10_laysOn_11 (fun x_2 lx_2 ux_2 ex_2 => ?_)
      refine q_icmp_ge (tgt := 113) hx hb dX10_laysOn_14 (by decide) ⟨ly4_8, uy4_8⟩ ⟨lx_2, ux_2⟩ (fun c14 => ?_) (fun c14 => ?_)
      · exact q_ret_v hx hb hr hlocks hK hAe hw (Nat.le_of_ble_eq_true rfl) (Nat.le_of_ble_eq_true rfl) dX10_laysOn_113 (by exact ⟨rfl, hs, hE, by first | trivial | omega⟩)
      · refine lv_aload_n hx hb dX10_laysOn_17 rfl (lv_at hl 0 rfl) ?_
        refine lv_iload hx hb dX10_laysOn_18 (lv_at hl 4 rfl) ?_
        refine lv_iload_n hx hb dX10_laysOn_20 rfl (lv_at hl 1 rfl) ?_
        refine q_call_i hA hK hw (va_runV (As := [.int (iI y4_8), .int (iI x1)]) (rest := []) ⟨hx, hb, hml, hown, hts⟩ (c_X10_isOfRoom zo l D cy L0 fw8 a0 y4_8 ly4_8 uy4_8 x1 lx1 ux1 ad hs (by omega) (by omega) _) (cwV 2 hts (gT (inV (mr33 _ (List.mem_of_getElem? (i := 8) rfl)) (mr33 _ (List.mem_of_getElem? (i := 9) rfl)) (mr33 _ (List.mem_of_getElem? (i := 10) rfl)) (mr1 _ (List.mem_of_getElem? (i := 5) rfl)) (mr33 _ (List.mem_of_getElem? (i := 11) rfl)))) rfl rfl rfl (by decide +kernel) ⟨Nat.le_of_ble_eq_true rfl, Nat.le_of_ble_eq_true rfl⟩) (Wd.preV zo hA hZ hw hK hs.1 hs.2.1 rfl) rfl rfl hl.1 rfl (lv_room (Nat.le_of_ble_eq_true rfl)) dX10_laysOn_21 ⟨Nat.le_of_ble_eq_true rfl, Nat.le_of_ble_eq_true rfl⟩) (fun x_3 L1 f1 H locs lx_3 ux_3 ex_3 hw => ?_)
        obtain ⟨rfl, rfl, ex_3⟩ := ex_3
        have J107 : ∀ (L : List Nat) (fw107 : Nat → va_E) (hs : MS cy L0 fw107 a0 ad) (hE : Kp a0 ad [11, 12, 13, 23] [24] f0 fw107) (u5 : fI fw107 a0 5 = fI f0 a0 5) (o1 : 0 ≤ fI fw107 a0 24) (o2 : fI fw107 a0 24 ≤ 80 * y4_8 + 80) (H : Heap) (locs : List Loc) (ls : Array Slot) (hw : Wd D A s.heap L0 fw107 H locs) (hl : lv_has ls 6 [(0, .ref a0), (1, .int (iI x1)), (2, .int (iI x2)), (3, .int (iI x3)), (4, .int (iI y4_8))]), W p l e ({ frames := 4, cells := 0, slots := 0, locals := 103 } : Room) s m ([.ref a0, .int (iI x1), .int (iI x2), .int (iI x3)] : List Value).toArray below meth c H locs (0 + 0) (0 + 0) (MQ below (Qv D (tq cy) L0 f0 s.heap.size (fun (L1 : List Nat) (f1 : Nat → va_E) => L0 = L1 ∧ MS cy L0 f1 a0 ad ∧ Kp a0 ad [11, 12, 13, 23] [24] f0 f1 ∧ (0 ≤ fI f1 a0 24 ∧ fI f1 a0 24 ≤ 960))) ([.ref a0, .int (iI x1), .int (iI x2), .int (iI x3)] : List Value).toArray s 0 0 A) (F0 m 107 ls []) := by
          intro L fw107 hs hE u5 o1 o2 H locs ls hw hl
          have Q4 : aI fw107 (ad 4) = aI f0 (ad 4) := funext fun x => hE.1 4 rfl (by decide) x
          obtain ⟨x_4, lx_4, ux_4, hx_4, ex_4⟩ := q_inc y4_8 (1)
          try (replace ex_4 : x_4 = y4_8 + (1) := by omega)
          refine lv_iinc (v := iI x_4) (lv' := [(4, .int (iI x_4)), (0, .ref a0), (1, .int (iI x1)), (2, .int (iI x2)), (3, .int (iI x3))]) hx hb dX10_laysOn_107 hl (k := 4) rfl hx_4 (by decide) rfl (fun ls hl => ?_)
          refine lv_goto (tgt := 8) hx hb dX10_laysOn_110 (by decide) ?_
          exact ih8 x_4 lx_4 ux_4 L0 fw107 hs hE (by omega) (by omega) (by omega) (by omega) (by omega) (by omega) _ _ _ hw (lv_sub hl [1, 2, 3, 4, 0] rfl)
        refine q_if_ne (tgt := 30) hx hb dX10_laysOn_24 (by decide) ⟨lx_3, ux_3⟩ (fun c24 => ?_) (fun c24 => ?_)
        · refine lv_aload_n hx hb dX10_laysOn_30 rfl (lv_at hl 0 rfl) ?_
          refine lv_iload hx hb dX10_laysOn_31 (lv_at hl 4 rfl) ?_
          refine q_iconst hx hb dX10_laysOn_33 ?_
          refine q_call_v hA hK hw (va_runV (As := [.int (iI y4_8), .int (iI 0)]) (rest := []) ⟨hx, hb, hml, hown, hts⟩ (c_X10_laysTimes zo l D cy L0 fw8 a0 y4_8 ly4_8 uy4_8 0 (by decide) (by decide) ad hs (by first | exact hv | exact hv.kp hE (by decide) (by decide)) (by omega) (by omega) (by omega) (by omega) _) (cwV 2 hts (gT (inV (mr30 _ (List.mem_of_getElem? (i := 11) rfl)) (mr30 _ (List.mem_of_getElem? (i := 12) rfl)) (mr30 _ (List.mem_of_getElem? (i := 13) rfl)) (mr1 _ (List.mem_of_getElem? (i := 5) rfl)) (mr30 _ (List.mem_of_getElem? (i := 14) rfl)))) rfl rfl rfl (by decide +kernel) ⟨Nat.le_of_ble_eq_true rfl, Nat.le_of_ble_eq_true rfl⟩) (Wd.preV zo hA hZ hw hK hs.1 hs.2.1 rfl) rfl rfl hl.1 rfl (lv_room (Nat.le_of_ble_eq_true rfl)) dX10_laysOn_34 ⟨Nat.le_of_ble_eq_true rfl, Nat.le_of_ble_eq_true rfl⟩) (fun L1 f_6 H locs ex_5 hw => ?_)
          obtain ⟨rfl, hs, hX, ex_5⟩ := ex_5
          have hE := hE.trans (hX.mono (rs' := [11, 12, 13, 23]) (fs' := [24]) (by decide) (by decide))
          have t5_f_6 : fI f_6 a0 5 = fI fw8 a0 5 := hX.2 5 (by decide)
          have t24_f_6 : fI f_6 a0 24 = fI fw8 a0 24 := hX.2 24 (by decide)
          have Q4 : aI f_6 (ad 4) = aI f0 (ad 4) := funext fun x => hE.1 4 rfl (by decide) x
          obtain ⟨px_5a, px_5b, px_5c, lw⟩ := ex_5
          rw [show (36525 : Int) * 0 = 0 from rfl] at lw
          refine q_iconst hx hb dX10_laysOn_37 ?_
          refine lv_istore (lv' := [(5, .int (iI 0)), (0, .ref a0), (1, .int (iI x1)), (2, .int (iI x2)), (3, .int (iI x3)), (4, .int (iI y4_8))]) hx hb dX10_laysOn_38 hl (by decide) rfl (fun ls hl => ?_)
          have J40 : ∀ (n40 : Nat) (y5_40 : Int) (ly5_40 : -2147483648 ≤ y5_40) (uy5_40 : y5_40 ≤ 2147483647) (L : List Nat) (fw40 : Nat → va_E) (hs : MS cy L0 fw40 a0 ad) (hE : Kp a0 ad [11, 12, 13, 23] [24] f0 fw40) (j1 : 0 ≤ y5_40) (j2 : y5_40 ≤ aI fw40 (ad 13) 0) (u5 : fI fw40 a0 5 = fI f0 a0 5) (o1 : 0 ≤ fI fw40 a0 24) (ra : 0 ≤ aI fw40 (ad 13) 0) (rb : aI fw40 (ad 13) 0 ≤ 36525) (on : fI fw40 a0 24 ≤ 80 * y4_8 + cw (aI fw40 (ad 11)) 0 (x2 - aI f0 (ad 4) (44 * y4_8 + 2) + 1) x3 y5_40) (lw : LW (aI fw40 (ad 11)) 0 (aI fw40 (ad 13) 0) 16) (hn40 : ((2147483647 : Int) - y5_40).toNat < n40) (H : Heap) (locs : List Loc) (ls : Array Slot) (hw : Wd D A s.heap L0 fw40 H locs) (hl : lv_has ls 6 [(0, .ref a0), (1, .int (iI x1)), (2, .int (iI x2)), (3, .int (iI x3)), (4, .int (iI y4_8)), (5, .int (iI y5_40))]), W p l e ({ frames := 4, cells := 0, slots := 0, locals := 103 } : Room) s m ([.ref a0, .int (iI x1), .int (iI x2), .int (iI x3)] : List Value).toArray below meth c H locs (0 + 0 + 0) (0 + 0 + 0) (MQ below (Qv D (tq cy) L0 f0 s.heap.size (fun (L1 : List Nat) (f1 : Nat → va_E) => L0 = L1 ∧ MS cy L0 f1 a0 ad ∧ Kp a0 ad [11, 12, 13, 23] [24] f0 f1 ∧ (0 ≤ fI f1 a0 24 ∧ fI f1 a0 24 ≤ 960))) ([.ref a0, .int (iI x1), .int (iI x2), .int (iI x3)] : List Value).toArray s 0 0 A) (F0 m 40 ls []) := by
            intro n40
            induction n40 with
            | zero => intro y5_40 ly5_40 uy5_40 L fw40 hs hE j1 j2 u5 o1 ra rb on lw hn40; exact absurd hn40 (Nat.not_lt_zero _)
            | succ n40 ih40 =>
              intro y5_40 ly5_40 uy5_40 L fw40 hs hE j1 j2 u5 o1 ra rb on lw hn40 H locs ls hw hl
              have rv0 := hv.row y4_8 (by omega) (by omega)
              have cn := fun q => cw_mono (g := aI fw40 (ad 11)) (b := 0) (lo := x2 - aI f0 (ad 4) (44 * y4_8 + 2) + 1) (hi := x3) (n := y5_40) (m := y5_40 + 1) (by omega) q
              have lq := lw.1 (x2 - aI f0 (ad 4) (44 * y4_8 + 2) + 1) x3 (by omega)
              have lm := cw_mono (g := aI fw40 (ad 11)) (b := 0) (lo := x2 - aI f0 (ad 4) (44 * y4_8 + 2) + 1) (hi := x3) (n := y5_40) (m := aI fw40 (ad 13) 0) (by omega) (by omega)
              have Q4 : aI fw40 (ad 4) = aI f0 (ad 4) := funext fun x => hE.1 4 rfl (by decide) x
              refine lv_iload hx hb dX10_laysOn_40 (lv_at hl 5 rfl) ?_
              refine lv_aload_n hx hb dX10_laysOn_42 rfl (lv_at hl 0 rfl) ?_
              refine q_getr (ci := 8) (C := RX10) (T := TX10) (N := 26) hx hb hts (fun w h => List.mem_cons_of_mem _ (mfX100 w h)) hown hK hw hs.1 hs.2.1 rfl 13 (by decide) (hts _ (List.mem_cons_of_mem _ (mr3 _ (List.mem_of_getElem? (i := 21) rfl)))) (fun _ h => h) rfl (hs.2.2.1 13 rfl).1 dX10_laysOn_43 ?_
              refine q_iconst hx hb dX10_laysOn_46 ?_
              refine q_iald hx hb hK hw (hs.2.2.1 13 rfl).2.1 1 (hs.2.2.1 13 rfl).2.2 rfl ⟨by decide, by decide⟩ (by omega) (by show _ < ((2 : Nat) : Int); omega) dX10_laysOn_47 (fun x_7 lx_7 ux_7 ex_7 => ?_)
              refine q_icmp_ge (tgt := 107) hx hb dX10_laysOn_48 (by decide) ⟨ly5_40, uy5_40⟩ ⟨lx_7, ux_7⟩ (fun c48 => ?_) (fun c48 => ?_)
              · exact J107 L0 fw40 hs hE (by omega) (by omega) (by omega) _ _ _ hw (lv_sub hl [0, 1, 2, 3, 4] rfl)
              · refine lv_aload_n hx hb dX10_laysOn_51 rfl (lv_at hl 0 rfl) ?_
                refine q_getr (ci := 8) (C := RX10) (T := TX10) (N := 26) hx hb hts (fun w h => List.mem_cons_of_mem _ (mfX100 w h)) hown hK hw hs.1 hs.2.1 rfl 11 (by decide) (hts _ (List.mem_cons_of_mem _ (mr3 _ (List.mem_of_getElem? (i := 19) rfl)))) (fun _ h => h) rfl (hs.2.2.1 11 rfl).1 dX10_laysOn_52 ?_
                refine lv_iload hx hb dX10_laysOn_55 (lv_at hl 5 rfl) ?_
                refine q_iald hx hb hK hw (hs.2.2.1 11 rfl).2.1 1 (hs.2.2.1 11 rfl).2.2 rfl ⟨ly5_40, uy5_40⟩ (by omega) (by show _ < ((73050 : Nat) : Int); omega) dX10_laysOn_57 (fun x_8 lx_8 ux_8 ex_8 => ?_)
                have tb := lw.2 y5_40 (by omega) (by omega)
                rw [show (0 : Int) + y5_40 = y5_40 by omega] at tb
                refine lv_iload_n hx hb dX10_laysOn_58 rfl (lv_at hl 3 rfl) ?_
                have J101 : ∀ (L : List Nat) (fw101 : Nat → va_E) (hs : MS cy L0 fw101 a0 ad) (hE : Kp a0 ad [11, 12, 13, 23] [24] f0 fw101) (u5 : fI fw101 a0 5 = fI f0 a0 5) (o1 : 0 ≤ fI fw101 a0 24) (ra : 0 ≤ aI fw101 (ad 13) 0) (rb : aI fw101 (ad 13) 0 ≤ 36525) (j9 : y5_40 + 1 ≤ aI fw101 (ad 13) 0) (on : fI fw101 a0 24 ≤ 80 * y4_8 + cw (aI fw101 (ad 11)) 0 (x2 - aI f0 (ad 4) (44 * y4_8 + 2) + 1) x3 (y5_40 + 1)) (lw : LW (aI fw101 (ad 11)) 0 (aI fw101 (ad 13) 0) 16) (H : Heap) (locs : List Loc) (ls : Array Slot) (hw : Wd D A s.heap L0 fw101 H locs) (hl : lv_has ls 6 [(0, .ref a0), (1, .int (iI x1)), (2, .int (iI x2)), (3, .int (iI x3)), (4, .int (iI y4_8)), (5, .int (iI y5_40))]), W p l e ({ frames := 4, cells := 0, slots := 0, locals := 103 } : Room) s m ([.ref a0, .int (iI x1), .int (iI x2), .int (iI x3)] : List Value).toArray below meth c H locs (0 + 0 + 0) (0 + 0 + 0) (MQ below (Qv D (tq cy) L0 f0 s.heap.size (fun (L1 : List Nat) (f1 : Nat → va_E) => L0 = L1 ∧ MS cy L0 f1 a0 ad ∧ Kp a0 ad [11, 12, 13, 23] [24] f0 f1 ∧ (0 ≤ fI f1 a0 24 ∧ fI f1 a0 24 ≤ 960))) ([.ref a0, .int (iI x1), .int (iI x2), .int (iI x3)] : List Value).toArray s 0 0 A) (F0 m 101 ls []) := by
                  intro L fw101 hs hE u5 o1 ra rb j9 on lw H locs ls hw hl
                  have Q4 : aI fw101 (ad 4) = aI f0 (ad 4) := funext fun x => hE.1 4 rfl (by decide) x
                  obtain ⟨x_9, lx_9, ux_9, hx_9, ex_9⟩ := q_inc y5_40 (1)
                  try (replace ex_9 : x_9 = y5_40 + (1) := by omega)
                  refine lv_iinc (v := iI x_9) (lv' := [(5, .int (iI x_9)), (0, .ref a0), (1, .int (iI x1)), (2, .int (iI x2)), (3, .int (iI x3)), (4, .int (iI y4_8))]) hx hb dX10_laysOn_101 hl (k := 5) rfl hx_9 (by decide) rfl (fun ls hl => ?_)
                  refine lv_goto (tgt := 40) hx hb dX10_laysOn_104 (by decide) ?_
                  exact ih40 x_9 lx_9 ux_9 L0 fw101 hs hE (by omega) (by omega) (by omega) (by omega) (by omega) (by omega) (by first | (rw [cw_0]; omega) | exact on_to on (by omega)) (by exact lw) (by omega) _ _ _ hw (lv_sub hl [1, 2, 3, 4, 5, 0] rfl)
                refine q_icmp_ge (tgt := 101) hx hb dX10_laysOn_59 (by decide) ⟨lx_8, ux_8⟩ ⟨lx3, ux3⟩ (fun c59 => ?_) (fun c59 => ?_)
                · exact J101 L0 fw40 hs hE (by omega) (by omega) (by omega) (by omega) (by omega) (by first | (have q := cn (by omega); omega) | (rw [T98, cw_succ (by omega), if_pos ⟨by rw [show (0 : Int) + y5_40 = y5_40 by omega]; omega, by rw [show (0 : Int) + y5_40 = y5_40 by omega]; omega⟩]; omega)) (by first | exact lw | (rw [T98, R98]; exact lw)) _ _ _ hw (lv_sub hl [0, 1, 2, 3, 4, 5] rfl)
                · refine lv_aload_n hx hb dX10_laysOn_62 rfl (lv_at hl 0 rfl) ?_
                  refine q_getr (ci := 8) (C := RX10) (T := TX10) (N := 26) hx hb hts (fun w h => List.mem_cons_of_mem _ (mfX100 w h)) hown hK hw hs.1 hs.2.1 rfl 11 (by decide) (hts _ (List.mem_cons_of_mem _ (mr3 _ (List.mem_of_getElem? (i := 19) rfl)))) (fun _ h => h) rfl (hs.2.2.1 11 rfl).1 dX10_laysOn_63 ?_
                  refine lv_iload hx hb dX10_laysOn_66 (lv_at hl 5 rfl) ?_
                  refine q_iald hx hb hK hw (hs.2.2.1 11 rfl).2.1 1 (hs.2.2.1 11 rfl).2.2 rfl ⟨ly5_40, uy5_40⟩ (by omega) (by show _ < ((73050 : Nat) : Int); omega) dX10_laysOn_68 (fun x_10 lx_10 ux_10 ex_10 => ?_)
                  refine lv_aload_n hx hb dX10_laysOn_69 rfl (lv_at hl 0 rfl) ?_
                  refine lv_iload hx hb dX10_laysOn_70 (lv_at hl 4 rfl) ?_
                  refine q_iconst hx hb dX10_laysOn_72 ?_
                  refine q_call_i hA hK hw (va_runV (As := [.int (iI y4_8), .int (iI 2)]) (rest := [.int (iI x_10)]) ⟨hx, hb, hml, hown, hts⟩ (c_X10_get zo l D cy L0 fw40 a0 y4_8 ly4_8 uy4_8 2 (by decide) (by decide) ad hs (by omega) (by omega) (by omega) (by omega) _) (cwV 2 hts (gT (inV (mr25 _ (List.mem_of_getElem? (i := 0) rfl)) (mr25 _ (List.mem_of_getElem? (i := 1) rfl)) (mr25 _ (List.mem_of_getElem? (i := 2) rfl)) (mr1 _ (List.mem_of_getElem? (i := 5) rfl)) (mr25 _ (List.mem_of_getElem? (i := 3) rfl)))) rfl rfl rfl (by decide +kernel) ⟨Nat.le_of_ble_eq_true rfl, Nat.le_of_ble_eq_true rfl⟩) (Wd.preV zo hA hZ hw hK hs.1 hs.2.1 rfl) rfl rfl hl.1 rfl (lv_room (Nat.le_of_ble_eq_true rfl)) dX10_laysOn_73 ⟨Nat.le_of_ble_eq_true rfl, Nat.le_of_ble_eq_true rfl⟩) (fun x_11 L1 f1 H locs lx_11 ux_11 ex_11 hw => ?_)
                  obtain ⟨rfl, rfl, ex_11⟩ := ex_11
                  rw [Q4] at ex_11
                  first | refine q_iadd hx hb dX10_laysOn_76 ⟨by omega, by omega⟩ (fun x_12 lx_12 ux_12 ex_12 => ?_) | refine q_iaddw hx hb dX10_laysOn_76 (fun x_12 lx_12 ux_12 ex_12 => ?_)
                  refine lv_iload_n hx hb dX10_laysOn_77 rfl (lv_at hl 2 rfl) ?_
                  refine q_icmp_le (tgt := 101) hx hb dX10_laysOn_78 (by decide) ⟨lx_12, ux_12⟩ ⟨lx2, ux2⟩ (fun c78 => ?_) (fun c78 => ?_)
                  · exact J101 L0 fw40 hs hE (by omega) (by omega) (by omega) (by omega) (by omega) (by first | (have q := cn (by omega); omega) | (rw [T98, cw_succ (by omega), if_pos ⟨by rw [show (0 : Int) + y5_40 = y5_40 by omega]; omega, by rw [show (0 : Int) + y5_40 = y5_40 by omega]; omega⟩]; omega)) (by first | exact lw | (rw [T98, R98]; exact lw)) _ _ _ hw (lv_sub hl [0, 1, 2, 3, 4, 5] rfl)
                  · refine lv_aload_n hx hb dX10_laysOn_81 rfl (lv_at hl 0 rfl) ?_
                    refine lv_iload hx hb dX10_laysOn_82 (lv_at hl 4 rfl) ?_
                    refine lv_aload_n hx hb dX10_laysOn_84 rfl (lv_at hl 0 rfl) ?_
                    refine q_getr (ci := 8) (C := RX10) (T := TX10) (N := 26) hx hb hts (fun w h => List.mem_cons_of_mem _ (mfX100 w h)) hown hK hw hs.1 hs.2.1 rfl 12 (by decide) (hts _ (List.mem_cons_of_mem _ (mr3 _ (List.mem_of_getElem? (i := 20) rfl)))) (fun _ h => h) rfl (hs.2.2.1 12 rfl).1 dX10_laysOn_85 ?_
                    refine lv_iload hx hb dX10_laysOn_88 (lv_at hl 5 rfl) ?_
                    refine q_iald hx hb hK hw (hs.2.2.1 12 rfl).2.1 1 (hs.2.2.1 12 rfl).2.2 rfl ⟨ly5_40, uy5_40⟩ (by omega) (by show _ < ((73050 : Nat) : Int); omega) dX10_laysOn_90 (fun x_13 lx_13 ux_13 ex_13 => ?_)
                    refine lv_aload_n hx hb dX10_laysOn_91 rfl (lv_at hl 0 rfl) ?_
                    refine q_getr (ci := 8) (C := RX10) (T := TX10) (N := 26) hx hb hts (fun w h => List.mem_cons_of_mem _ (mfX100 w h)) hown hK hw hs.1 hs.2.1 rfl 11 (by decide) (hts _ (List.mem_cons_of_mem _ (mr3 _ (List.mem_of_getElem? (i := 19) rfl)))) (fun _ h => h) rfl (hs.2.2.1 11 rfl).1 dX10_laysOn_92 ?_
                    refine lv_iload hx hb dX10_laysOn_95 (lv_at hl 5 rfl) ?_
                    refine q_iald hx hb hK hw (hs.2.2.1 11 rfl).2.1 1 (hs.2.2.1 11 rfl).2.2 rfl ⟨ly5_40, uy5_40⟩ (by omega) (by show _ < ((73050 : Nat) : Int); omega) dX10_laysOn_97 (fun x_14 lx_14 ux_14 ex_14 => ?_)
                    refine q_call_v hA hK hw (va_runV (As := [.int (iI y4_8), .int (iI x_13), .int (iI x_14)]) (rest := []) ⟨hx, hb, hml, hown, hts⟩ (c_X10_comesOn zo l D cy L0 fw40 a0 y4_8 ly4_8 uy4_8 x_13 lx_13 ux_13 x_14 lx_14 ux_14 ad hs (by omega) (by omega) _) (cwV 3 hts (gT (inV (mr33 _ (List.mem_of_getElem? (i := 12) rfl)) (mr33 _ (List.mem_of_getElem? (i := 13) rfl)) (mr33 _ (List.mem_of_getElem? (i := 14) rfl)) (mr1 _ (List.mem_of_getElem? (i := 5) rfl)) (mr33 _ (List.mem_of_getElem? (i := 15) rfl)))) rfl rfl rfl (by decide +kernel) ⟨Nat.le_of_ble_eq_true rfl, Nat.le_of_ble_eq_true rfl⟩) (Wd.preV zo hA hZ hw hK hs.1 hs.2.1 rfl) rfl rfl hl.1 rfl (lv_room (Nat.le_of_ble_eq_true rfl)) dX10_laysOn_98 ⟨Nat.le_of_ble_eq_true rfl, Nat.le_of_ble_eq_true rfl⟩) (fun L1 f_16 H locs ex_15 hw => ?_)
                    obtain ⟨rfl, hs, hX, ex_15⟩ := ex_15
                    have hE := hE.trans (hX.mono (rs' := [11, 12, 13, 23]) (fs' := [24]) (by decide) (by decide))
                    have t5_f_16 : fI f_16 a0 5 = fI fw40 a0 5 := hX.2 5 (by decide)
                    have Q4 : aI f_16 (ad 4) = aI f0 (ad 4) := funext fun x => hE.1 4 rfl (by decide) x
                    have T98 : aI f_16 (ad 11) = aI fw40 (ad 11) := funext fun x => hX.1 11 rfl (by decide) x
                    have R98 : aI f_16 (ad 13) 0 = aI fw40 (ad 13) 0 := hX.1 13 rfl (by decide) 0
                    exact J101 L0 f_16 hs hE (by omega) (by omega) (by omega) (by omega) (by omega) (by first | (have q := cn (by omega); omega) | (rw [T98, cw_succ (by omega), if_pos ⟨by rw [show (0 : Int) + y5_40 = y5_40 by omega]; omega, by rw [show (0 : Int) + y5_40 = y5_40 by omega]; omega⟩]; omega)) (by first | exact lw | (rw [T98, R98]; exact lw)) _ _ _ hw (lv_sub hl [0, 1, 2, 3, 4, 5] rfl)
          exact J40 ((((2147483647 : Int) - 0).toNat) + 1) 0 (by decide) (by decide) L0 f_6 hs hE (by omega) (by omega) (by omega) (by omega) (by omega) (by omega) (by first | (rw [cw_0]; omega) | exact on_to on (by omega)) (by exact lw) (by omega) _ _ _ hw (lv_sub hl [1, 2, 3, 4, 5, 0] rfl)
        · refine lv_goto (tgt := 107) hx hb dX10_laysOn_27 (by decide) ?_
          exact J107 L0 fw8 hs hE (by omega) (by omega) (by omega) _ _ _ hw (lv_sub hl [0, 1, 2, 3, 4] rfl)
  exact J8 ((((2147483647 : Int) - 0).toNat) + 1) 0 (by decide) (by decide) L0 f_1 hs hE (by omega) (by omega) (by omega) (by omega) (by omega) (by omega) _ _ _ hw (lv_sub hl [1, 2, 3, 4, 0] rfl)
set_option maxHeartbeats 4000000 in
set_option maxRecDepth 100000 in
theorem c_X10_on {Z : Zt} (zo : Zok Z) (l : Launch) (D : va_G) (cy : Cy) (L0 : List Nat) (f0 : Nat → va_E) (a0 : Nat) (x1 : Int) (lx1 : -2147483648 ≤ x1) (ux1 : x1 ≤ 2147483647) (x2 : Int) (lx2 : -2147483648 ≤ x2) (ux2 : x2 ≤ 2147483647) (x3 : Int) (lx3 : -2147483648 ≤ x3) (ux3 : x3 ≤ 2147483647) (ad : Nat → Nat) (hs : MS cy L0 f0 a0 ad) (hv : MV f0 a0 ad) : Ci Z l yX10_on (Cond.code yX10_on cX10_on 4 (some .int) :: TB) ({ frames := 5, cells := 0, slots := 0, locals := 128 } : Room) 0 0 D (tq cy) [.ref a0, .int (iI x1), .int (iI x2), .int (iI x3)] L0 f0 (fun (r : Int) (L1 : List Nat) (f1 : Nat → va_E) => L0 = L1 ∧ MS cy L0 f1 a0 ad ∧ Kp a0 ad [11, 12, 13, 23] [10, 24] f0 f1 ∧ (True)) := by
  refine Ci.enter (cc := cX10_on) (n := 4) rfl (plainFor_of_name (by decide)) (Nat.le_of_ble_eq_true rfl) ?_
  intro p e s m below meth c ls A hx hb hr hts hown hlocks hnm hml hK hA hAe hw hZ hl
  have hown : s.vm.findClass RX10 = some m.cls := hown
  have hl : lv_has ls 4 [(0, .ref a0), (1, .int (iI x1)), (2, .int (iI x2)), (3, .int (iI x3))] := hl
  have hN : ZN s := (zo.2.2.2.2 _ _ _ hZ).2
  have hE : Kp a0 ad [11, 12, 13, 23] [10, 24] f0 f0 := Kp.refl _ _ _ _ _
  have m5 := hv.1
  have m6 := hv.2.1
  refine lv_aload_n hx hb dX10_on_0 rfl (lv_at hl 0 rfl) ?_
  refine q_iconst hx hb dX10_on_1 ?_
  refine q_puti (ci := 8) (C := RX10) (T := TX10) (N := 26) hx hb hts (fun w h => List.mem_cons_of_mem _ (mfX100 w h)) hown hK hw hs.1 hs.2.1 rfl 10 (by decide) (hts _ (List.mem_cons_of_mem _ (mr4 _ (List.mem_of_getElem? (i := 19) rfl)))) (fun _ h => h) tyX10 tyX10_ok nmX10 rfl (ty := .int) (by decide +kernel) rfl rfl dX10_on_2 (fun H locs hw => ?_)
  obtain ⟨f_1, ef_1⟩ : ∃ g : Nat → va_E, g = pU f0 a0 10 (.int (iI 0)) := ⟨_, rfl⟩
  have v10_f_1 : fI f_1 a0 10 = 0 := by rw [ef_1]; exact fI_pU_self hs.2.1 rfl ⟨by decide, by decide⟩
  have t5_f_1 : fI f_1 a0 5 = fI f0 a0 5 := by rw [ef_1]; exact fI_pU (Or.inr (by decide))
  have t24_f_1 : fI f_1 a0 24 = fI f0 a0 24 := by rw [ef_1]; exact fI_pU (Or.inr (by decide))
  have hE := hE.trans (show Kp a0 ad [11, 12, 13, 23] [10, 24] f0 f_1 by rw [ef_1]; exact Kp_pU hs (by decide))
  have hs : MS cy L0 f_1 a0 ad := by rw [ef_1]; exact MS_pU hs rfl
  rw [← ef_1] at hw
  refine lv_iload_n hx hb dX10_on_5 rfl (lv_at hl 1 rfl) ?_
  refine lv_iload_n hx hb dX10_on_6 rfl (lv_at hl 2 rfl) ?_
  refine lv_iload_n hx hb dX10_on_7 rfl (lv_at hl 3 rfl) ?_
  refine q_call_i hA hK hw (va_runS (As := [.int (iI x1), .int (iI x2), .int (iI x3)]) (rest := []) ⟨hx, hb, hml, hown, hts⟩ (c_X10_isSpan zo l D cy L0 f_1 x1 lx1 ux1 x2 lx2 ux2 x3 lx3 ux3 _) (va_cwS 3 hts (gT (inS (mr32 _ (List.mem_of_getElem? (i := 23) rfl)) (mr33 _ (List.mem_of_getElem? (i := 0) rfl)) (mr1 _ (List.mem_of_getElem? (i := 5) rfl)) (mr33 _ (List.mem_of_getElem? (i := 1) rfl)))) rfl rfl rfl (by decide +kernel) ⟨Nat.le_of_ble_eq_true rfl, Nat.le_of_ble_eq_true rfl⟩) (Wd.preS zo hA hZ hw hK) rfl rfl hl.1 rfl (lv_room (Nat.le_of_ble_eq_true rfl)) dX10_on_8 ⟨Nat.le_of_ble_eq_true rfl, Nat.le_of_ble_eq_true rfl⟩) (fun x_2 L1 f1 H locs lx_2 ux_2 ex_2 hw => ?_)
  obtain ⟨rfl, rfl, ex_2⟩ := ex_2
  refine q_if_ne (tgt := 16) hx hb dX10_on_11 (by decide) ⟨lx_2, ux_2⟩ (fun c11 => ?_) (fun c11 => ?_)
  · refine lv_aload_n hx hb dX10_on_16 rfl (lv_at hl 0 rfl) ?_
    refine lv_iload_n hx hb dX10_on_17 rfl (lv_at hl 1 rfl) ?_
    refine lv_iload_n hx hb dX10_on_18 rfl (lv_at hl 2 rfl) ?_
    refine lv_iload_n hx hb dX10_on_19 rfl (lv_at hl 3 rfl) ?_
    refine q_call_v hA hK hw (va_runV (As := [.int (iI x1), .int (iI x2), .int (iI x3)]) (rest := []) ⟨hx, hb, hml, hown, hts⟩ (c_X10_laysOn zo l D cy L0 f_1 a0 x1 lx1 ux1 x2 lx2 ux2 x3 lx3 ux3 ad hs (by first | exact hv | exact hv.kp hE (by decide) (by decide)) (by omega) (by omega) (by omega) (by omega) _) (cwV 3 hts (gT (inV (mr33 _ (List.mem_of_getElem? (i := 4) rfl)) (mr33 _ (List.mem_of_getElem? (i := 5) rfl)) (mr33 _ (List.mem_of_getElem? (i := 6) rfl)) (mr1 _ (List.mem_of_getElem? (i := 5) rfl)) (mr33 _ (List.mem_of_getElem? (i := 7) rfl)))) rfl rfl rfl (by decide +kernel) ⟨Nat.le_of_ble_eq_true rfl, Nat.le_of_ble_eq_true rfl⟩) (Wd.preV zo hA hZ hw hK hs.1 hs.2.1 rfl) rfl rfl hl.1 rfl (lv_room (Nat.le_of_ble_eq_true rfl)) dX10_on_20 ⟨Nat.le_of_ble_eq_true rfl, Nat.le_of_ble_eq_true rfl⟩) (fun L1 f_4 H locs ex_3 hw => ?_)
    obtain ⟨rfl, hs, hX, ex_3⟩ := ex_3
    have hE := hE.trans (hX.mono (rs' := [11, 12, 13, 23]) (fs' := [10, 24]) (by decide) (by decide))
    have t5_f_4 : fI f_4 a0 5 = fI f_1 a0 5 := hX.2 5 (by decide)
    refine lv_aload_n hx hb dX10_on_23 rfl (lv_at hl 0 rfl) ?_
    refine q_geti (ci := 8) (C := RX10) (T := TX10) (N := 26) hx hb hts (fun w h => List.mem_cons_of_mem _ (mfX100 w h)) hown hK hw hs.1 hs.2.1 rfl 24 (by decide) (hts _ (List.mem_cons_of_mem _ (mr32 _ (List.mem_of_getElem? (i := 22) rfl)))) (fun _ h => h) rfl dX10_on_24 (fun x_5 lx_5 ux_5 ex_5 => ?_)
    exact q_ret_i hx hb hr hlocks hK hAe hw ⟨lx_5, ux_5⟩ (Nat.le_of_ble_eq_true rfl) (Nat.le_of_ble_eq_true rfl) dX10_on_27 (by exact ⟨rfl, hs, hE, by first | trivial | omega⟩)
  · refine q_iconst hx hb dX10_on_14 ?_
    exact q_ret_i hx hb hr hlocks hK hAe hw ⟨by decide, by decide⟩ (Nat.le_of_ble_eq_true rfl) (Nat.le_of_ble_eq_true rfl) dX10_on_15 (by exact ⟨rfl, hs, hE, by first | trivial | omega⟩)
set_option maxHeartbeats 4000000 in
set_option maxRecDepth 100000 in
theorem c_X10_onAt {Z : Zt} (zo : Zok Z) (l : Launch) (D : va_G) (cy : Cy) (L0 : List Nat) (f0 : Nat → va_E) (a0 : Nat) (x1 : Int) (lx1 : -2147483648 ≤ x1) (ux1 : x1 ≤ 2147483647) (x2 : Int) (lx2 : -2147483648 ≤ x2) (ux2 : x2 ≤ 2147483647) (x3 : Int) (lx3 : -2147483648 ≤ x3) (ux3 : x3 ≤ 2147483647) (x4 : Int) (lx4 : -2147483648 ≤ x4) (ux4 : x4 ≤ 2147483647) (x5 : Int) (lx5 : -2147483648 ≤ x5) (ux5 : x5 ≤ 2147483647) (ad : Nat → Nat) (hs : MS cy L0 f0 a0 ad) (hv : MV f0 a0 ad) : Ci Z l yX10_onAt (Cond.code yX10_onAt cX10_onAt 6 (some .int) :: TB) ({ frames := 5, cells := 0, slots := 0, locals := 128 } : Room) 0 0 D (tq cy) [.ref a0, .int (iI x1), .int (iI x2), .int (iI x3), .int (iI x4), .int (iI x5)] L0 f0 (fun (r : Int) (L1 : List Nat) (f1 : Nat → va_E) => L0 = L1 ∧ MS cy L0 f1 a0 ad ∧ Kp a0 ad [11, 12, 13, 23] [10, 24] f0 f1 ∧ (True)) := by
  refine Ci.enter (cc := cX10_onAt) (n := 6) rfl (plainFor_of_name (by decide)) (Nat.le_of_ble_eq_true rfl) ?_
  intro p e s m below meth c ls A hx hb hr hts hown hlocks hnm hml hK hA hAe hw hZ hl
  have hown : s.vm.findClass RX10 = some m.cls := hown
  have hl : lv_has ls 6 [(0, .ref a0), (1, .int (iI x1)), (2, .int (iI x2)), (3, .int (iI x3)), (4, .int (iI x4)), (5, .int (iI x5))] := hl
  have hN : ZN s := (zo.2.2.2.2 _ _ _ hZ).2
  have hE : Kp a0 ad [11, 12, 13, 23] [10, 24] f0 f0 := Kp.refl _ _ _ _ _
  have m5 := hv.1
  have m6 := hv.2.1
  refine lv_aload_n hx hb dX10_onAt_0 rfl (lv_at hl 0 rfl) ?_
  refine q_iconst hx hb dX10_onAt_1 ?_
  refine q_puti (ci := 8) (C := RX10) (T := TX10) (N := 26) hx hb hts (fun w h => List.mem_cons_of_mem _ (mfX100 w h)) hown hK hw hs.1 hs.2.1 rfl 10 (by decide) (hts _ (List.mem_cons_of_mem _ (mr4 _ (List.mem_of_getElem? (i := 19) rfl)))) (fun _ h => h) tyX10 tyX10_ok nmX10 rfl (ty := .int) (by decide +kernel) rfl rfl dX10_onAt_2 (fun H locs hw => ?_)
  obtain ⟨f_1, ef_1⟩ : ∃ g : Nat → va_E, g = pU f0 a0 10 (.int (iI 1)) := ⟨_, rfl⟩
  have v10_f_1 : fI f_1 a0 10 = 1 := by rw [ef_1]; exact fI_pU_self hs.2.1 rfl ⟨by decide, by decide⟩
  have t5_f_1 : fI f_1 a0 5 = fI f0 a0 5 := by rw [ef_1]; exact fI_pU (Or.inr (by decide))
  have t24_f_1 : fI f_1 a0 24 = fI f0 a0 24 := by rw [ef_1]; exact fI_pU (Or.inr (by decide))
  have hE := hE.trans (show Kp a0 ad [11, 12, 13, 23] [10, 24] f0 f_1 by rw [ef_1]; exact Kp_pU hs (by decide))
  have hs : MS cy L0 f_1 a0 ad := by rw [ef_1]; exact MS_pU hs rfl
  rw [← ef_1] at hw
  refine lv_iload_n hx hb dX10_onAt_5 rfl (lv_at hl 1 rfl) ?_
  refine lv_iload_n hx hb dX10_onAt_6 rfl (lv_at hl 2 rfl) ?_
  refine lv_iload_n hx hb dX10_onAt_7 rfl (lv_at hl 3 rfl) ?_
  refine q_call_i hA hK hw (va_runS (As := [.int (iI x1), .int (iI x2), .int (iI x3)]) (rest := []) ⟨hx, hb, hml, hown, hts⟩ (c_X10_isSpan zo l D cy L0 f_1 x1 lx1 ux1 x2 lx2 ux2 x3 lx3 ux3 _) (va_cwS 3 hts (gT (inS (mr32 _ (List.mem_of_getElem? (i := 23) rfl)) (mr33 _ (List.mem_of_getElem? (i := 0) rfl)) (mr1 _ (List.mem_of_getElem? (i := 5) rfl)) (mr33 _ (List.mem_of_getElem? (i := 1) rfl)))) rfl rfl rfl (by decide +kernel) ⟨Nat.le_of_ble_eq_true rfl, Nat.le_of_ble_eq_true rfl⟩) (Wd.preS zo hA hZ hw hK) rfl rfl hl.1 rfl (lv_room (Nat.le_of_ble_eq_true rfl)) dX10_onAt_8 ⟨Nat.le_of_ble_eq_true rfl, Nat.le_of_ble_eq_true rfl⟩) (fun x_2 L1 f1 H locs lx_2 ux_2 ex_2 hw => ?_)
  obtain ⟨rfl, rfl, ex_2⟩ := ex_2
  refine q_if_eq (tgt := 24) hx hb dX10_onAt_11 (by decide) ⟨lx_2, ux_2⟩ (fun c11 => ?_) (fun c11 => ?_)
  · refine q_iconst hx hb dX10_onAt_24 ?_
    exact q_ret_i hx hb hr hlocks hK hAe hw ⟨by decide, by decide⟩ (Nat.le_of_ble_eq_true rfl) (Nat.le_of_ble_eq_true rfl) dX10_onAt_25 (by exact ⟨rfl, hs, hE, by first | trivial | omega⟩)
  · refine lv_iload hx hb dX10_onAt_14 (lv_at hl 5 rfl) ?_
    refine q_iconst hx hb dX10_onAt_16 ?_
    refine q_iconst hx hb dX10_onAt_17 ?_
    refine q_call_i hA hK hw (va_runS (As := [.int (iI x5), .int (iI 0), .int (iI 2)]) (rest := []) ⟨hx, hb, hml, hown, hts⟩ (c_X10_within zo l D cy L0 f_1 x5 lx5 ux5 0 (by decide) (by decide) 2 (by decide) (by decide) _) (va_cwS 3 hts (gT (inS (mr5 _ (List.mem_of_getElem? (i := 9) rfl)) (mr5 _ (List.mem_of_getElem? (i := 10) rfl)) (mr1 _ (List.mem_of_getElem? (i := 5) rfl)) (mr5 _ (List.mem_of_getElem? (i := 11) rfl)))) rfl rfl rfl (by decide +kernel) ⟨Nat.le_of_ble_eq_true rfl, Nat.le_of_ble_eq_true rfl⟩) (Wd.preS zo hA hZ hw hK) rfl rfl hl.1 rfl (lv_room (Nat.le_of_ble_eq_true rfl)) dX10_onAt_18 ⟨Nat.le_of_ble_eq_true rfl, Nat.le_of_ble_eq_true rfl⟩) (fun x_3 L1 f1 H locs lx_3 ux_3 ex_3 hw => ?_)
    obtain ⟨rfl, rfl, ex_3⟩ := ex_3
    refine q_if_ne (tgt := 26) hx hb dX10_onAt_21 (by decide) ⟨lx_3, ux_3⟩ (fun c21 => ?_) (fun c21 => ?_)
    · refine lv_aload_n hx hb dX10_onAt_26 rfl (lv_at hl 0 rfl) ?_
      refine lv_iload_n hx hb dX10_onAt_27 rfl (lv_at hl 1 rfl) ?_
      refine lv_iload_n hx hb dX10_onAt_28 rfl (lv_at hl 2 rfl) ?_
      refine lv_iload_n hx hb dX10_onAt_29 rfl (lv_at hl 3 rfl) ?_
      refine q_call_v hA hK hw (va_runV (As := [.int (iI x1), .int (iI x2), .int (iI x3)]) (rest := []) ⟨hx, hb, hml, hown, hts⟩ (c_X10_laysOn zo l D cy L0 f_1 a0 x1 lx1 ux1 x2 lx2 ux2 x3 lx3 ux3 ad hs (by first | exact hv | exact hv.kp hE (by decide) (by decide)) (by omega) (by omega) (by omega) (by omega) _) (cwV 3 hts (gT (inV (mr33 _ (List.mem_of_getElem? (i := 4) rfl)) (mr33 _ (List.mem_of_getElem? (i := 5) rfl)) (mr33 _ (List.mem_of_getElem? (i := 6) rfl)) (mr1 _ (List.mem_of_getElem? (i := 5) rfl)) (mr33 _ (List.mem_of_getElem? (i := 7) rfl)))) rfl rfl rfl (by decide +kernel) ⟨Nat.le_of_ble_eq_true rfl, Nat.le_of_ble_eq_true rfl⟩) (Wd.preV zo hA hZ hw hK hs.1 hs.2.1 rfl) rfl rfl hl.1 rfl (lv_room (Nat.le_of_ble_eq_true rfl)) dX10_onAt_30 ⟨Nat.le_of_ble_eq_true rfl, Nat.le_of_ble_eq_true rfl⟩) (fun L1 f_5 H locs ex_4 hw => ?_)
      obtain ⟨rfl, hs, hX, ex_4⟩ := ex_4
      have hE := hE.trans (hX.mono (rs' := [11, 12, 13, 23]) (fs' := [10, 24]) (by decide) (by decide))
      have t5_f_5 : fI f_5 a0 5 = fI f_1 a0 5 := hX.2 5 (by decide)
      refine lv_iload hx hb dX10_onAt_33 (lv_at hl 4 rfl) ?_
      refine q_iconst hx hb dX10_onAt_35 ?_
      refine lv_aload_n hx hb dX10_onAt_36 rfl (lv_at hl 0 rfl) ?_
      refine q_geti (ci := 8) (C := RX10) (T := TX10) (N := 26) hx hb hts (fun w h => List.mem_cons_of_mem _ (mfX100 w h)) hown hK hw hs.1 hs.2.1 rfl 24 (by decide) (hts _ (List.mem_cons_of_mem _ (mr32 _ (List.mem_of_getElem? (i := 22) rfl)))) (fun _ h => h) rfl dX10_onAt_37 (fun x_6 lx_6 ux_6 ex_6 => ?_)
      refine q_iconst hx hb dX10_onAt_40 ?_
      first | refine q_isub hx hb dX10_onAt_41 ⟨by omega, by omega⟩ (fun x_7 lx_7 ux_7 ex_7 => ?_) | refine q_isubw hx hb dX10_onAt_41 (fun x_7 lx_7 ux_7 ex_7 => ?_)
      refine q_call_i hA hK hw (va_runS (As := [.int (iI x4), .int (iI 0), .int (iI x_7)]) (rest := []) ⟨hx, hb, hml, hown, hts⟩ (c_X10_within zo l D cy L0 f_5 x4 lx4 ux4 0 (by decide) (by decide) x_7 lx_7 ux_7 _) (va_cwS 3 hts (gT (inS (mr5 _ (List.mem_of_getElem? (i := 9) rfl)) (mr5 _ (List.mem_of_getElem? (i := 10) rfl)) (mr1 _ (List.mem_of_getElem? (i := 5) rfl)) (mr5 _ (List.mem_of_getElem? (i := 11) rfl)))) rfl rfl rfl (by decide +kernel) ⟨Nat.le_of_ble_eq_true rfl, Nat.le_of_ble_eq_true rfl⟩) (Wd.preS zo hA hZ hw hK) rfl rfl hl.1 rfl (lv_room (Nat.le_of_ble_eq_true rfl)) dX10_onAt_42 ⟨Nat.le_of_ble_eq_true rfl, Nat.le_of_ble_eq_true rfl⟩) (fun x_8 L1 f1 H locs lx_8 ux_8 ex_8 hw => ?_)
      obtain ⟨rfl, rfl, ex_8⟩ := ex_8
      refine q_if_ne (tgt := 50) hx hb dX10_onAt_45 (by decide) ⟨lx_8, ux_8⟩ (fun c45 => ?_) (fun c45 => ?_)
      · refine lv_aload_n hx hb dX10_onAt_50 rfl (lv_at hl 0 rfl) ?_
        refine q_iconst hx hb dX10_onAt_51 ?_
        refine q_puti (ci := 8) (C := RX10) (T := TX10) (N := 26) hx hb hts (fun w h => List.mem_cons_of_mem _ (mfX100 w h)) hown hK hw hs.1 hs.2.1 rfl 10 (by decide) (hts _ (List.mem_cons_of_mem _ (mr4 _ (List.mem_of_getElem? (i := 19) rfl)))) (fun _ h => h) tyX10 tyX10_ok nmX10 rfl (ty := .int) (by decide +kernel) rfl rfl dX10_onAt_52 (fun H locs hw => ?_)
        obtain ⟨f_9, ef_9⟩ : ∃ g : Nat → va_E, g = pU f_5 a0 10 (.int (iI 0)) := ⟨_, rfl⟩
        have v10_f_9 : fI f_9 a0 10 = 0 := by rw [ef_9]; exact fI_pU_self hs.2.1 rfl ⟨by decide, by decide⟩
        have t5_f_9 : fI f_9 a0 5 = fI f_5 a0 5 := by rw [ef_9]; exact fI_pU (Or.inr (by decide))
        have t24_f_9 : fI f_9 a0 24 = fI f_5 a0 24 := by rw [ef_9]; exact fI_pU (Or.inr (by decide))
        have hE := hE.trans (show Kp a0 ad [11, 12, 13, 23] [10, 24] f_5 f_9 by rw [ef_9]; exact Kp_pU hs (by decide))
        have hs : MS cy L0 f_9 a0 ad := by rw [ef_9]; exact MS_pU hs rfl
        rw [← ef_9] at hw
        refine lv_aload_n hx hb dX10_onAt_55 rfl (lv_at hl 0 rfl) ?_
        refine q_getr (ci := 8) (C := RX10) (T := TX10) (N := 26) hx hb hts (fun w h => List.mem_cons_of_mem _ (mfX100 w h)) hown hK hw hs.1 hs.2.1 rfl 23 (by decide) (hts _ (List.mem_cons_of_mem _ (mr3 _ (List.mem_of_getElem? (i := 23) rfl)))) (fun _ h => h) rfl (hs.2.2.1 23 rfl).1 dX10_onAt_56 ?_
        refine q_iconst hx hb dX10_onAt_59 ?_
        refine lv_iload hx hb dX10_onAt_60 (lv_at hl 4 rfl) ?_
        first | refine q_imul hx hb dX10_onAt_62 ⟨by omega, by omega⟩ (fun x_10 lx_10 ux_10 ex_10 => ?_) | refine q_imulw hx hb dX10_onAt_62 (fun x_10 lx_10 ux_10 ex_10 => ?_)
        refine lv_iload hx hb dX10_onAt_63 (lv_at hl 5 rfl) ?_
        first | refine q_iadd hx hb dX10_onAt_65 ⟨by omega, by omega⟩ (fun x_11 lx_11 ux_11 ex_11 => ?_) | refine q_iaddw hx hb dX10_onAt_65 (fun x_11 lx_11 ux_11 ex_11 => ?_)
        refine q_iald hx hb hK hw (hs.2.2.1 23 rfl).2.1 1 (hs.2.2.1 23 rfl).2.2 rfl ⟨lx_11, ux_11⟩ (by omega) (by show _ < ((3300 : Nat) : Int); omega) dX10_onAt_66 (fun x_12 lx_12 ux_12 ex_12 => ?_)
        exact q_ret_i hx hb hr hlocks hK hAe hw ⟨lx_12, ux_12⟩ (Nat.le_of_ble_eq_true rfl) (Nat.le_of_ble_eq_true rfl) dX10_onAt_67 (by exact ⟨rfl, hs, hE, by first | trivial | omega⟩)
      · refine q_iconst hx hb dX10_onAt_48 ?_
        exact q_ret_i hx hb hr hlocks hK hAe hw ⟨by decide, by decide⟩ (Nat.le_of_ble_eq_true rfl) (Nat.le_of_ble_eq_true rfl) dX10_onAt_49 (by exact ⟨rfl, hs, hE, by first | trivial | omega⟩)
    · refine q_iconst hx hb dX10_onAt_24 ?_
      exact q_ret_i hx hb hr hlocks hK hAe hw ⟨by decide, by decide⟩ (Nat.le_of_ble_eq_true rfl) (Nat.le_of_ble_eq_true rfl) dX10_onAt_25 (by exact ⟨rfl, hs, hE, by first | trivial | omega⟩)
set_option maxHeartbeats 4000000 in
set_option maxRecDepth 100000 in
theorem c_X10_clash {Z : Zt} (zo : Zok Z) (l : Launch) (D : va_G) (cy : Cy) (L0 : List Nat) (f0 : Nat → va_E) (a0 : Nat) (x1 : Int) (lx1 : -2147483648 ≤ x1) (ux1 : x1 ≤ 2147483647) (x2 : Int) (lx2 : -2147483648 ≤ x2) (ux2 : x2 ≤ 2147483647) (x3 : Int) (lx3 : -2147483648 ≤ x3) (ux3 : x3 ≤ 2147483647) (ad : Nat → Nat) (hs : MS cy L0 f0 a0 ad) (hv : MV f0 a0 ad) : Ci Z l yX10_clash (Cond.code yX10_clash cX10_clash 4 (some .int) :: TB) ({ frames := 4, cells := 0, slots := 0, locals := 103 } : Room) 0 0 D (tq cy) [.ref a0, .int (iI x1), .int (iI x2), .int (iI x3)] L0 f0 (fun (r : Int) (L1 : List Nat) (f1 : Nat → va_E) => L0 = L1 ∧ MS cy L0 f1 a0 ad ∧ Kp a0 ad [11, 12, 13] [10] f0 f1 ∧ (True)) := by
  refine Ci.enter (cc := cX10_clash) (n := 4) rfl (plainFor_of_name (by decide)) (Nat.le_of_ble_eq_true rfl) ?_
  intro p e s m below meth c ls A hx hb hr hts hown hlocks hnm hml hK hA hAe hw hZ hl
  have hown : s.vm.findClass RX10 = some m.cls := hown
  have hl : lv_has ls 4 [(0, .ref a0), (1, .int (iI x1)), (2, .int (iI x2)), (3, .int (iI x3))] := hl
  have hN : ZN s := (zo.2.2.2.2 _ _ _ hZ).2
  have hE : Kp a0 ad [11, 12, 13] [10] f0 f0 := Kp.refl _ _ _ _ _
  have m5 := hv.1
  have m6 := hv.2.1
  refine lv_aload_n hx hb dX10_clash_0 rfl (lv_at hl 0 rfl) ?_
  refine q_iconst hx hb dX10_clash_1 ?_
  refine q_puti (ci := 8) (C := RX10) (T := TX10) (N := 26) hx hb hts (fun w h => List.mem_cons_of_mem _ (mfX100 w h)) hown hK hw hs.1 hs.2.1 rfl 10 (by decide) (hts _ (List.mem_cons_of_mem _ (mr4 _ (List.mem_of_getElem? (i := 19) rfl)))) (fun _ h => h) tyX10 tyX10_ok nmX10 rfl (ty := .int) (by decide +kernel) rfl rfl dX10_clash_2 (fun H locs hw => ?_)
  obtain ⟨f_1, ef_1⟩ : ∃ g : Nat → va_E, g = pU f0 a0 10 (.int (iI 0)) := ⟨_, rfl⟩
  have v10_f_1 : fI f_1 a0 10 = 0 := by rw [ef_1]; exact fI_pU_self hs.2.1 rfl ⟨by decide, by decide⟩
  have t5_f_1 : fI f_1 a0 5 = fI f0 a0 5 := by rw [ef_1]; exact fI_pU (Or.inr (by decide))
  have hE := hE.trans (show Kp a0 ad [11, 12, 13] [10] f0 f_1 by rw [ef_1]; exact Kp_pU hs (by decide))
  have hs : MS cy L0 f_1 a0 ad := by rw [ef_1]; exact MS_pU hs rfl
  rw [← ef_1] at hw
  refine lv_aload_n hx hb dX10_clash_5 rfl (lv_at hl 0 rfl) ?_
  refine lv_iload_n hx hb dX10_clash_6 rfl (lv_at hl 1 rfl) ?_
  refine q_call_i hA hK hw (va_runV (As := [.int (iI x1)]) (rest := []) ⟨hx, hb, hml, hown, hts⟩ (c_X10_isBooking zo l D cy L0 f_1 a0 x1 lx1 ux1 ad hs (by omega) _) (cwV 1 hts (gT (inV (mr22 _ (List.mem_of_getElem? (i := 21) rfl)) (mr22 _ (List.mem_of_getElem? (i := 22) rfl)) (mr22 _ (List.mem_of_getElem? (i := 23) rfl)) (mr1 _ (List.mem_of_getElem? (i := 5) rfl)) (mr23 _ (List.mem_of_getElem? (i := 0) rfl)))) rfl rfl rfl (by decide +kernel) ⟨Nat.le_of_ble_eq_true rfl, Nat.le_of_ble_eq_true rfl⟩) (Wd.preV zo hA hZ hw hK hs.1 hs.2.1 rfl) rfl rfl hl.1 rfl (lv_room (Nat.le_of_ble_eq_true rfl)) dX10_clash_7 ⟨Nat.le_of_ble_eq_true rfl, Nat.le_of_ble_eq_true rfl⟩) (fun x_2 L1 f1 H locs lx_2 ux_2 ex_2 hw => ?_)
  obtain ⟨rfl, rfl, ex_2⟩ := ex_2
  refine q_if_eq (tgt := 33) hx hb dX10_clash_10 (by decide) ⟨lx_2, ux_2⟩ (fun c10 => ?_) (fun c10 => ?_)
  · refine q_iconst hx hb dX10_clash_33 ?_
    exact q_ret_i hx hb hr hlocks hK hAe hw ⟨by decide, by decide⟩ (Nat.le_of_ble_eq_true rfl) (Nat.le_of_ble_eq_true rfl) dX10_clash_34 (by exact ⟨rfl, hs, hE, by first | trivial | omega⟩)
  · refine lv_aload_n hx hb dX10_clash_13 rfl (lv_at hl 0 rfl) ?_
    refine lv_iload_n hx hb dX10_clash_14 rfl (lv_at hl 2 rfl) ?_
    refine q_call_i hA hK hw (va_runV (As := [.int (iI x2)]) (rest := []) ⟨hx, hb, hml, hown, hts⟩ (c_X10_isBooking zo l D cy L0 f_1 a0 x2 lx2 ux2 ad hs (by omega) _) (cwV 1 hts (gT (inV (mr22 _ (List.mem_of_getElem? (i := 21) rfl)) (mr22 _ (List.mem_of_getElem? (i := 22) rfl)) (mr22 _ (List.mem_of_getElem? (i := 23) rfl)) (mr1 _ (List.mem_of_getElem? (i := 5) rfl)) (mr23 _ (List.mem_of_getElem? (i := 0) rfl)))) rfl rfl rfl (by decide +kernel) ⟨Nat.le_of_ble_eq_true rfl, Nat.le_of_ble_eq_true rfl⟩) (Wd.preV zo hA hZ hw hK hs.1 hs.2.1 rfl) rfl rfl hl.1 rfl (lv_room (Nat.le_of_ble_eq_true rfl)) dX10_clash_15 ⟨Nat.le_of_ble_eq_true rfl, Nat.le_of_ble_eq_true rfl⟩) (fun x_3 L1 f1 H locs lx_3 ux_3 ex_3 hw => ?_)
    obtain ⟨rfl, rfl, ex_3⟩ := ex_3
    refine q_if_eq (tgt := 33) hx hb dX10_clash_18 (by decide) ⟨lx_3, ux_3⟩ (fun c18 => ?_) (fun c18 => ?_)
    · refine q_iconst hx hb dX10_clash_33 ?_
      exact q_ret_i hx hb hr hlocks hK hAe hw ⟨by decide, by decide⟩ (Nat.le_of_ble_eq_true rfl) (Nat.le_of_ble_eq_true rfl) dX10_clash_34 (by exact ⟨rfl, hs, hE, by first | trivial | omega⟩)
    · refine lv_iload_n hx hb dX10_clash_21 rfl (lv_at hl 1 rfl) ?_
      refine lv_iload_n hx hb dX10_clash_22 rfl (lv_at hl 2 rfl) ?_
      refine q_icmp_eq (tgt := 33) hx hb dX10_clash_23 (by decide) ⟨lx1, ux1⟩ ⟨lx2, ux2⟩ (fun c23 => ?_) (fun c23 => ?_)
      · refine q_iconst hx hb dX10_clash_33 ?_
        exact q_ret_i hx hb hr hlocks hK hAe hw ⟨by decide, by decide⟩ (Nat.le_of_ble_eq_true rfl) (Nat.le_of_ble_eq_true rfl) dX10_clash_34 (by exact ⟨rfl, hs, hE, by first | trivial | omega⟩)
      · refine lv_iload_n hx hb dX10_clash_26 rfl (lv_at hl 3 rfl) ?_
        refine q_call_i hA hK hw (va_runS (As := [.int (iI x3)]) (rest := []) ⟨hx, hb, hml, hown, hts⟩ (c_X10_isTime zo l D cy L0 f_1 x3 lx3 ux3 _) (va_cwS 1 hts (gT (inS (mr28 _ (List.mem_of_getElem? (i := 3) rfl)) (mr28 _ (List.mem_of_getElem? (i := 4) rfl)) (mr1 _ (List.mem_of_getElem? (i := 5) rfl)) (mr28 _ (List.mem_of_getElem? (i := 5) rfl)))) rfl rfl rfl (by decide +kernel) ⟨Nat.le_of_ble_eq_true rfl, Nat.le_of_ble_eq_true rfl⟩) (Wd.preS zo hA hZ hw hK) rfl rfl hl.1 rfl (lv_room (Nat.le_of_ble_eq_true rfl)) dX10_clash_27 ⟨Nat.le_of_ble_eq_true rfl, Nat.le_of_ble_eq_true rfl⟩) (fun x_4 L1 f1 H locs lx_4 ux_4 ex_4 hw => ?_)
        obtain ⟨rfl, rfl, ex_4⟩ := ex_4
        refine q_if_ne (tgt := 35) hx hb dX10_clash_30 (by decide) ⟨lx_4, ux_4⟩ (fun c30 => ?_) (fun c30 => ?_)
        · refine lv_aload_n hx hb dX10_clash_35 rfl (lv_at hl 0 rfl) ?_
          refine lv_iload_n hx hb dX10_clash_36 rfl (lv_at hl 1 rfl) ?_
          refine q_iconst hx hb dX10_clash_37 ?_
          refine q_call_v hA hK hw (va_runV (As := [.int (iI x1), .int (iI 0)]) (rest := []) ⟨hx, hb, hml, hown, hts⟩ (c_X10_laysTimes zo l D cy L0 f_1 a0 x1 lx1 ux1 0 (by decide) (by decide) ad hs (by first | exact hv | exact hv.kp hE (by decide) (by decide)) (by omega) (by omega) (by omega) (by omega) _) (cwV 2 hts (gT (inV (mr30 _ (List.mem_of_getElem? (i := 11) rfl)) (mr30 _ (List.mem_of_getElem? (i := 12) rfl)) (mr30 _ (List.mem_of_getElem? (i := 13) rfl)) (mr1 _ (List.mem_of_getElem? (i := 5) rfl)) (mr30 _ (List.mem_of_getElem? (i := 14) rfl)))) rfl rfl rfl (by decide +kernel) ⟨Nat.le_of_ble_eq_true rfl, Nat.le_of_ble_eq_true rfl⟩) (Wd.preV zo hA hZ hw hK hs.1 hs.2.1 rfl) rfl rfl hl.1 rfl (lv_room (Nat.le_of_ble_eq_true rfl)) dX10_clash_38 ⟨Nat.le_of_ble_eq_true rfl, Nat.le_of_ble_eq_true rfl⟩) (fun L1 f_6 H locs ex_5 hw => ?_)
          obtain ⟨rfl, hs, hX, ex_5⟩ := ex_5
          have hE := hE.trans (hX.mono (rs' := [11, 12, 13]) (fs' := [10]) (by decide) (by decide))
          have t5_f_6 : fI f_6 a0 5 = fI f_1 a0 5 := hX.2 5 (by decide)
          obtain ⟨a38, b38, -, -⟩ := ex_5
          refine lv_aload_n hx hb dX10_clash_41 rfl (lv_at hl 0 rfl) ?_
          refine lv_iload_n hx hb dX10_clash_42 rfl (lv_at hl 2 rfl) ?_
          refine q_iconst hx hb dX10_clash_43 ?_
          refine q_call_v hA hK hw (va_runV (As := [.int (iI x2), .int (iI 1)]) (rest := []) ⟨hx, hb, hml, hown, hts⟩ (c_X10_laysTimes zo l D cy L0 f_6 a0 x2 lx2 ux2 1 (by decide) (by decide) ad hs (by first | exact hv | exact hv.kp hE (by decide) (by decide)) (by omega) (by omega) (by omega) (by omega) _) (cwV 2 hts (gT (inV (mr30 _ (List.mem_of_getElem? (i := 11) rfl)) (mr30 _ (List.mem_of_getElem? (i := 12) rfl)) (mr30 _ (List.mem_of_getElem? (i := 13) rfl)) (mr1 _ (List.mem_of_getElem? (i := 5) rfl)) (mr30 _ (List.mem_of_getElem? (i := 14) rfl)))) rfl rfl rfl (by decide +kernel) ⟨Nat.le_of_ble_eq_true rfl, Nat.le_of_ble_eq_true rfl⟩) (Wd.preV zo hA hZ hw hK hs.1 hs.2.1 rfl) rfl rfl hl.1 rfl (lv_room (Nat.le_of_ble_eq_true rfl)) dX10_clash_44 ⟨Nat.le_of_ble_eq_true rfl, Nat.le_of_ble_eq_true rfl⟩) (fun L1 f_8 H locs ex_7 hw => ?_)
          obtain ⟨rfl, hs, hX, ex_7⟩ := ex_7
          have hE := hE.trans (hX.mono (rs' := [11, 12, 13]) (fs' := [10]) (by decide) (by decide))
          have t5_f_8 : fI f_8 a0 5 = fI f_6 a0 5 := hX.2 5 (by decide)
          obtain ⟨a44, b44, c44, -⟩ := ex_7
          have d44 := c44 0 (by omega) (by omega)
          refine lv_aload_n hx hb dX10_clash_47 rfl (lv_at hl 0 rfl) ?_
          refine lv_aload_n hx hb dX10_clash_48 rfl (lv_at hl 0 rfl) ?_
          refine lv_iload_n hx hb dX10_clash_49 rfl (lv_at hl 1 rfl) ?_
          refine q_iconst hx hb dX10_clash_50 ?_
          refine q_call_i hA hK hw (va_runV (As := [.int (iI x1), .int (iI 2)]) (rest := [.ref a0]) ⟨hx, hb, hml, hown, hts⟩ (c_X10_get zo l D cy L0 f_8 a0 x1 lx1 ux1 2 (by decide) (by decide) ad hs (by omega) (by omega) (by omega) (by omega) _) (cwV 2 hts (gT (inV (mr25 _ (List.mem_of_getElem? (i := 0) rfl)) (mr25 _ (List.mem_of_getElem? (i := 1) rfl)) (mr25 _ (List.mem_of_getElem? (i := 2) rfl)) (mr1 _ (List.mem_of_getElem? (i := 5) rfl)) (mr25 _ (List.mem_of_getElem? (i := 3) rfl)))) rfl rfl rfl (by decide +kernel) ⟨Nat.le_of_ble_eq_true rfl, Nat.le_of_ble_eq_true rfl⟩) (Wd.preV zo hA hZ hw hK hs.1 hs.2.1 rfl) rfl rfl hl.1 rfl (lv_room (Nat.le_of_ble_eq_true rfl)) dX10_clash_51 ⟨Nat.le_of_ble_eq_true rfl, Nat.le_of_ble_eq_true rfl⟩) (fun x_9 L1 f1 H locs lx_9 ux_9 ex_9 hw => ?_)
          obtain ⟨rfl, rfl, ex_9⟩ := ex_9
          refine lv_aload_n hx hb dX10_clash_54 rfl (lv_at hl 0 rfl) ?_
          refine lv_iload_n hx hb dX10_clash_55 rfl (lv_at hl 2 rfl) ?_
          refine q_iconst hx hb dX10_clash_56 ?_
          refine q_call_i hA hK hw (va_runV (As := [.int (iI x2), .int (iI 2)]) (rest := [.int (iI x_9), .ref a0]) ⟨hx, hb, hml, hown, hts⟩ (c_X10_get zo l D cy L0 f_8 a0 x2 lx2 ux2 2 (by decide) (by decide) ad hs (by omega) (by omega) (by omega) (by omega) _) (cwV 2 hts (gT (inV (mr25 _ (List.mem_of_getElem? (i := 0) rfl)) (mr25 _ (List.mem_of_getElem? (i := 1) rfl)) (mr25 _ (List.mem_of_getElem? (i := 2) rfl)) (mr1 _ (List.mem_of_getElem? (i := 5) rfl)) (mr25 _ (List.mem_of_getElem? (i := 3) rfl)))) rfl rfl rfl (by decide +kernel) ⟨Nat.le_of_ble_eq_true rfl, Nat.le_of_ble_eq_true rfl⟩) (Wd.preV zo hA hZ hw hK hs.1 hs.2.1 rfl) rfl rfl hl.1 rfl (lv_room (Nat.le_of_ble_eq_true rfl)) dX10_clash_57 ⟨Nat.le_of_ble_eq_true rfl, Nat.le_of_ble_eq_true rfl⟩) (fun x_10 L1 f1 H locs lx_10 ux_10 ex_10 hw => ?_)
          obtain ⟨rfl, rfl, ex_10⟩ := ex_10
          refine lv_iload_n hx hb dX10_clash_60 rfl (lv_at hl 3 rfl) ?_
          refine q_call_i hA hK hw (va_runV (As := [.int (iI x_9), .int (iI x_10), .int (iI x3)]) (rest := []) ⟨hx, hb, hml, hown, hts⟩ (c_X10_clashOf zo l D cy L0 f_8 a0 x_9 lx_9 ux_9 x_10 lx_10 ux_10 x3 lx3 ux3 ad hs (by omega) (by omega) (by omega) (by omega) _) (cwV 3 hts (gT (inV (mr37 _ (List.mem_of_getElem? (i := 11) rfl)) (mr37 _ (List.mem_of_getElem? (i := 12) rfl)) (mr37 _ (List.mem_of_getElem? (i := 13) rfl)) (mr1 _ (List.mem_of_getElem? (i := 5) rfl)) (mr37 _ (List.mem_of_getElem? (i := 14) rfl)))) rfl rfl rfl (by decide +kernel) ⟨Nat.le_of_ble_eq_true rfl, Nat.le_of_ble_eq_true rfl⟩) (Wd.preV zo hA hZ hw hK hs.1 hs.2.1 rfl) rfl rfl hl.1 rfl (lv_room (Nat.le_of_ble_eq_true rfl)) dX10_clash_61 ⟨Nat.le_of_ble_eq_true rfl, Nat.le_of_ble_eq_true rfl⟩) (fun x_11 L1 f1 H locs lx_11 ux_11 ex_11 hw => ?_)
          obtain ⟨rfl, rfl, ex_11⟩ := ex_11
          exact q_ret_i hx hb hr hlocks hK hAe hw ⟨lx_11, ux_11⟩ (Nat.le_of_ble_eq_true rfl) (Nat.le_of_ble_eq_true rfl) dX10_clash_64 (by exact ⟨rfl, hs, hE, by first | trivial | omega⟩)
        · refine q_iconst hx hb dX10_clash_33 ?_
          exact q_ret_i hx hb hr hlocks hK hAe hw ⟨by decide, by decide⟩ (Nat.le_of_ble_eq_true rfl) (Nat.le_of_ble_eq_true rfl) dX10_clash_34 (by exact ⟨rfl, hs, hE, by first | trivial | omega⟩)
set_option maxHeartbeats 4000000 in
set_option maxRecDepth 100000 in
theorem c_X10_clashes {Z : Zt} (zo : Zok Z) (l : Launch) (D : va_G) (cy : Cy) (L0 : List Nat) (f0 : Nat → va_E) (a0 : Nat) (x1 : Int) (lx1 : -2147483648 ≤ x1) (ux1 : x1 ≤ 2147483647) (x2 : Int) (lx2 : -2147483648 ≤ x2) (ux2 : x2 ≤ 2147483647) (x3 : Int) (lx3 : -2147483648 ≤ x3) (ux3 : x3 ≤ 2147483647) (x4 : Int) (lx4 : -2147483648 ≤ x4) (ux4 : x4 ≤ 2147483647) (ad : Nat → Nat) (hs : MS cy L0 f0 a0 ad) (hv : MV f0 a0 ad) : Ci Z l yX10_clashes (Cond.code yX10_clashes cX10_clashes 11 (some .int) :: TB) ({ frames := 4, cells := 0, slots := 0, locals := 103 } : Room) 0 0 D (tq cy) [.ref a0, .int (iI x1), .int (iI x2), .int (iI x3), .int (iI x4)] L0 f0 (fun (r : Int) (L1 : List Nat) (f1 : Nat → va_E) => L0 = L1 ∧ MS cy L0 f1 a0 ad ∧ Kp a0 ad [11, 12, 13] [10] f0 f1 ∧ (True)) := by
  refine Ci.enter (cc := cX10_clashes) (n := 11) rfl (plainFor_of_name (by decide)) (Nat.le_of_ble_eq_true rfl) ?_
  intro p e s m below meth c ls A hx hb hr hts hown hlocks hnm hml hK hA hAe hw hZ hl
  have hown : s.vm.findClass RX10 = some m.cls := hown
  have hl : lv_has ls 11 [(0, .ref a0), (1, .int (iI x1)), (2, .int (iI x2)), (3, .int (iI x3)), (4, .int (iI x4))] := hl
  have hN : ZN s := (zo.2.2.2.2 _ _ _ hZ).2
  have hE : Kp a0 ad [11, 12, 13] [10] f0 f0 := Kp.refl _ _ _ _ _
  have m5 := hv.1
  have m6 := hv.2.1
  refine lv_aload_n hx hb dX10_clashes_0 rfl (lv_at hl 0 rfl) ?_
  refine q_iconst hx hb dX10_clashes_1 ?_
  refine q_puti (ci := 8) (C := RX10) (T := TX10) (N := 26) hx hb hts (fun w h => List.mem_cons_of_mem _ (mfX100 w h)) hown hK hw hs.1 hs.2.1 rfl 10 (by decide) (hts _ (List.mem_cons_of_mem _ (mr4 _ (List.mem_of_getElem? (i := 19) rfl)))) (fun _ h => h) tyX10 tyX10_ok nmX10 rfl (ty := .int) (by decide +kernel) rfl rfl dX10_clashes_2 (fun H locs hw => ?_)
  obtain ⟨f_1, ef_1⟩ : ∃ g : Nat → va_E, g = pU f0 a0 10 (.int (iI 0)) := ⟨_, rfl⟩
  have v10_f_1 : fI f_1 a0 10 = 0 := by rw [ef_1]; exact fI_pU_self hs.2.1 rfl ⟨by decide, by decide⟩
  have t5_f_1 : fI f_1 a0 5 = fI f0 a0 5 := by rw [ef_1]; exact fI_pU (Or.inr (by decide))
  have hE := hE.trans (show Kp a0 ad [11, 12, 13] [10] f0 f_1 by rw [ef_1]; exact Kp_pU hs (by decide))
  have hs : MS cy L0 f_1 a0 ad := by rw [ef_1]; exact MS_pU hs rfl
  rw [← ef_1] at hw
  refine lv_aload_n hx hb dX10_clashes_5 rfl (lv_at hl 0 rfl) ?_
  refine lv_iload_n hx hb dX10_clashes_6 rfl (lv_at hl 1 rfl) ?_
  refine q_call_i hA hK hw (va_runV (As := [.int (iI x1)]) (rest := []) ⟨hx, hb, hml, hown, hts⟩ (c_X10_isBooking zo l D cy L0 f_1 a0 x1 lx1 ux1 ad hs (by omega) _) (cwV 1 hts (gT (inV (mr22 _ (List.mem_of_getElem? (i := 21) rfl)) (mr22 _ (List.mem_of_getElem? (i := 22) rfl)) (mr22 _ (List.mem_of_getElem? (i := 23) rfl)) (mr1 _ (List.mem_of_getElem? (i := 5) rfl)) (mr23 _ (List.mem_of_getElem? (i := 0) rfl)))) rfl rfl rfl (by decide +kernel) ⟨Nat.le_of_ble_eq_true rfl, Nat.le_of_ble_eq_true rfl⟩) (Wd.preV zo hA hZ hw hK hs.1 hs.2.1 rfl) rfl rfl hl.1 rfl (lv_room (Nat.le_of_ble_eq_true rfl)) dX10_clashes_7 ⟨Nat.le_of_ble_eq_true rfl, Nat.le_of_ble_eq_true rfl⟩) (fun x_2 L1 f1 H locs lx_2 ux_2 ex_2 hw => ?_)
  obtain ⟨rfl, rfl, ex_2⟩ := ex_2
  refine q_if_eq (tgt := 57) hx hb dX10_clashes_10 (by decide) ⟨lx_2, ux_2⟩ (fun c10 => ?_) (fun c10 => ?_)
  · refine q_iconst hx hb dX10_clashes_57 ?_
    exact q_ret_i hx hb hr hlocks hK hAe hw ⟨by decide, by decide⟩ (Nat.le_of_ble_eq_true rfl) (Nat.le_of_ble_eq_true rfl) dX10_clashes_58 (by exact ⟨rfl, hs, hE, by first | trivial | omega⟩)
  · refine lv_aload_n hx hb dX10_clashes_13 rfl (lv_at hl 0 rfl) ?_
    refine lv_iload_n hx hb dX10_clashes_14 rfl (lv_at hl 2 rfl) ?_
    refine q_call_i hA hK hw (va_runV (As := [.int (iI x2)]) (rest := []) ⟨hx, hb, hml, hown, hts⟩ (c_X10_isBooking zo l D cy L0 f_1 a0 x2 lx2 ux2 ad hs (by omega) _) (cwV 1 hts (gT (inV (mr22 _ (List.mem_of_getElem? (i := 21) rfl)) (mr22 _ (List.mem_of_getElem? (i := 22) rfl)) (mr22 _ (List.mem_of_getElem? (i := 23) rfl)) (mr1 _ (List.mem_of_getElem? (i := 5) rfl)) (mr23 _ (List.mem_of_getElem? (i := 0) rfl)))) rfl rfl rfl (by decide +kernel) ⟨Nat.le_of_ble_eq_true rfl, Nat.le_of_ble_eq_true rfl⟩) (Wd.preV zo hA hZ hw hK hs.1 hs.2.1 rfl) rfl rfl hl.1 rfl (lv_room (Nat.le_of_ble_eq_true rfl)) dX10_clashes_15 ⟨Nat.le_of_ble_eq_true rfl, Nat.le_of_ble_eq_true rfl⟩) (fun x_3 L1 f1 H locs lx_3 ux_3 ex_3 hw => ?_)
    obtain ⟨rfl, rfl, ex_3⟩ := ex_3
    refine q_if_eq (tgt := 57) hx hb dX10_clashes_18 (by decide) ⟨lx_3, ux_3⟩ (fun c18 => ?_) (fun c18 => ?_)
    · refine q_iconst hx hb dX10_clashes_57 ?_
      exact q_ret_i hx hb hr hlocks hK hAe hw ⟨by decide, by decide⟩ (Nat.le_of_ble_eq_true rfl) (Nat.le_of_ble_eq_true rfl) dX10_clashes_58 (by exact ⟨rfl, hs, hE, by first | trivial | omega⟩)
    · refine lv_iload_n hx hb dX10_clashes_21 rfl (lv_at hl 1 rfl) ?_
      refine lv_iload_n hx hb dX10_clashes_22 rfl (lv_at hl 2 rfl) ?_
      refine q_icmp_eq (tgt := 57) hx hb dX10_clashes_23 (by decide) ⟨lx1, ux1⟩ ⟨lx2, ux2⟩ (fun c23 => ?_) (fun c23 => ?_)
      · refine q_iconst hx hb dX10_clashes_57 ?_
        exact q_ret_i hx hb hr hlocks hK hAe hw ⟨by decide, by decide⟩ (Nat.le_of_ble_eq_true rfl) (Nat.le_of_ble_eq_true rfl) dX10_clashes_58 (by exact ⟨rfl, hs, hE, by first | trivial | omega⟩)
      · refine lv_iload_n hx hb dX10_clashes_26 rfl (lv_at hl 3 rfl) ?_
        refine q_call_i hA hK hw (va_runS (As := [.int (iI x3)]) (rest := []) ⟨hx, hb, hml, hown, hts⟩ (c_X10_isDay zo l D cy L0 f_1 x3 lx3 ux3 _) (va_cwS 1 hts (gT (inS (mr23 _ (List.mem_of_getElem? (i := 21) rfl)) (mr23 _ (List.mem_of_getElem? (i := 22) rfl)) (mr1 _ (List.mem_of_getElem? (i := 5) rfl)) (mr23 _ (List.mem_of_getElem? (i := 23) rfl)))) rfl rfl rfl (by decide +kernel) ⟨Nat.le_of_ble_eq_true rfl, Nat.le_of_ble_eq_true rfl⟩) (Wd.preS zo hA hZ hw hK) rfl rfl hl.1 rfl (lv_room (Nat.le_of_ble_eq_true rfl)) dX10_clashes_27 ⟨Nat.le_of_ble_eq_true rfl, Nat.le_of_ble_eq_true rfl⟩) (fun x_4 L1 f1 H locs lx_4 ux_4 ex_4 hw => ?_)
        obtain ⟨rfl, rfl, ex_4⟩ := ex_4
        refine q_if_eq (tgt := 57) hx hb dX10_clashes_30 (by decide) ⟨lx_4, ux_4⟩ (fun c30 => ?_) (fun c30 => ?_)
        · refine q_iconst hx hb dX10_clashes_57 ?_
          exact q_ret_i hx hb hr hlocks hK hAe hw ⟨by decide, by decide⟩ (Nat.le_of_ble_eq_true rfl) (Nat.le_of_ble_eq_true rfl) dX10_clashes_58 (by exact ⟨rfl, hs, hE, by first | trivial | omega⟩)
        · refine lv_iload hx hb dX10_clashes_33 (lv_at hl 4 rfl) ?_
          refine q_call_i hA hK hw (va_runS (As := [.int (iI x4)]) (rest := []) ⟨hx, hb, hml, hown, hts⟩ (c_X10_isDay zo l D cy L0 f_1 x4 lx4 ux4 _) (va_cwS 1 hts (gT (inS (mr23 _ (List.mem_of_getElem? (i := 21) rfl)) (mr23 _ (List.mem_of_getElem? (i := 22) rfl)) (mr1 _ (List.mem_of_getElem? (i := 5) rfl)) (mr23 _ (List.mem_of_getElem? (i := 23) rfl)))) rfl rfl rfl (by decide +kernel) ⟨Nat.le_of_ble_eq_true rfl, Nat.le_of_ble_eq_true rfl⟩) (Wd.preS zo hA hZ hw hK) rfl rfl hl.1 rfl (lv_room (Nat.le_of_ble_eq_true rfl)) dX10_clashes_35 ⟨Nat.le_of_ble_eq_true rfl, Nat.le_of_ble_eq_true rfl⟩) (fun x_5 L1 f1 H locs lx_5 ux_5 ex_5 hw => ?_)
          obtain ⟨rfl, rfl, ex_5⟩ := ex_5
          refine q_if_eq (tgt := 57) hx hb dX10_clashes_38 (by decide) ⟨lx_5, ux_5⟩ (fun c38 => ?_) (fun c38 => ?_)
          · refine q_iconst hx hb dX10_clashes_57 ?_
            exact q_ret_i hx hb hr hlocks hK hAe hw ⟨by decide, by decide⟩ (Nat.le_of_ble_eq_true rfl) (Nat.le_of_ble_eq_true rfl) dX10_clashes_58 (by exact ⟨rfl, hs, hE, by first | trivial | omega⟩)
          · refine lv_iload hx hb dX10_clashes_41 (lv_at hl 4 rfl) ?_
            refine lv_iload_n hx hb dX10_clashes_43 rfl (lv_at hl 3 rfl) ?_
            refine q_icmp_lt (tgt := 57) hx hb dX10_clashes_44 (by decide) ⟨lx4, ux4⟩ ⟨lx3, ux3⟩ (fun c44 => ?_) (fun c44 => ?_)
            · refine q_iconst hx hb dX10_clashes_57 ?_
              exact q_ret_i hx hb hr hlocks hK hAe hw ⟨by decide, by decide⟩ (Nat.le_of_ble_eq_true rfl) (Nat.le_of_ble_eq_true rfl) dX10_clashes_58 (by exact ⟨rfl, hs, hE, by first | trivial | omega⟩)
            · refine lv_iload hx hb dX10_clashes_47 (lv_at hl 4 rfl) ?_
              refine lv_iload_n hx hb dX10_clashes_49 rfl (lv_at hl 3 rfl) ?_
              first | refine q_isub hx hb dX10_clashes_50 ⟨by omega, by omega⟩ (fun x_6 lx_6 ux_6 ex_6 => ?_) | refine q_isubw hx hb dX10_clashes_50 (fun x_6 lx_6 ux_6 ex_6 => ?_)
              refine q_sipush hx hb dX10_clashes_51 rfl ?_
              refine q_icmp_le (tgt := 59) hx hb dX10_clashes_54 (by decide) ⟨lx_6, ux_6⟩ ⟨by decide, by decide⟩ (fun c54 => ?_) (fun c54 => ?_)
              · refine lv_aload_n hx hb dX10_clashes_59 rfl (lv_at hl 0 rfl) ?_
                refine lv_iload_n hx hb dX10_clashes_60 rfl (lv_at hl 1 rfl) ?_
                refine q_iconst hx hb dX10_clashes_61 ?_
                refine q_call_v hA hK hw (va_runV (As := [.int (iI x1), .int (iI 0)]) (rest := []) ⟨hx, hb, hml, hown, hts⟩ (c_X10_laysTimes zo l D cy L0 f_1 a0 x1 lx1 ux1 0 (by decide) (by decide) ad hs (by first | exact hv | exact hv.kp hE (by decide) (by decide)) (by omega) (by omega) (by omega) (by omega) _) (cwV 2 hts (gT (inV (mr30 _ (List.mem_of_getElem? (i := 11) rfl)) (mr30 _ (List.mem_of_getElem? (i := 12) rfl)) (mr30 _ (List.mem_of_getElem? (i := 13) rfl)) (mr1 _ (List.mem_of_getElem? (i := 5) rfl)) (mr30 _ (List.mem_of_getElem? (i := 14) rfl)))) rfl rfl rfl (by decide +kernel) ⟨Nat.le_of_ble_eq_true rfl, Nat.le_of_ble_eq_true rfl⟩) (Wd.preV zo hA hZ hw hK hs.1 hs.2.1 rfl) rfl rfl hl.1 rfl (lv_room (Nat.le_of_ble_eq_true rfl)) dX10_clashes_62 ⟨Nat.le_of_ble_eq_true rfl, Nat.le_of_ble_eq_true rfl⟩) (fun L1 f_8 H locs ex_7 hw => ?_)
                obtain ⟨rfl, hs, hX, ex_7⟩ := ex_7
                have hE := hE.trans (hX.mono (rs' := [11, 12, 13]) (fs' := [10]) (by decide) (by decide))
                have t5_f_8 : fI f_8 a0 5 = fI f_1 a0 5 := hX.2 5 (by decide)
                obtain ⟨a38, b38, -, -⟩ := ex_7
                refine lv_aload_n hx hb dX10_clashes_65 rfl (lv_at hl 0 rfl) ?_
                refine lv_iload_n hx hb dX10_clashes_66 rfl (lv_at hl 2 rfl) ?_
                refine q_iconst hx hb dX10_clashes_67 ?_
                refine q_call_v hA hK hw (va_runV (As := [.int (iI x2), .int (iI 1)]) (rest := []) ⟨hx, hb, hml, hown, hts⟩ (c_X10_laysTimes zo l D cy L0 f_8 a0 x2 lx2 ux2 1 (by decide) (by decide) ad hs (by first | exact hv | exact hv.kp hE (by decide) (by decide)) (by omega) (by omega) (by omega) (by omega) _) (cwV 2 hts (gT (inV (mr30 _ (List.mem_of_getElem? (i := 11) rfl)) (mr30 _ (List.mem_of_getElem? (i := 12) rfl)) (mr30 _ (List.mem_of_getElem? (i := 13) rfl)) (mr1 _ (List.mem_of_getElem? (i := 5) rfl)) (mr30 _ (List.mem_of_getElem? (i := 14) rfl)))) rfl rfl rfl (by decide +kernel) ⟨Nat.le_of_ble_eq_true rfl, Nat.le_of_ble_eq_true rfl⟩) (Wd.preV zo hA hZ hw hK hs.1 hs.2.1 rfl) rfl rfl hl.1 rfl (lv_room (Nat.le_of_ble_eq_true rfl)) dX10_clashes_68 ⟨Nat.le_of_ble_eq_true rfl, Nat.le_of_ble_eq_true rfl⟩) (fun L1 f_10 H locs ex_9 hw => ?_)
                obtain ⟨rfl, hs, hX, ex_9⟩ := ex_9
                have hE := hE.trans (hX.mono (rs' := [11, 12, 13]) (fs' := [10]) (by decide) (by decide))
                have t5_f_10 : fI f_10 a0 5 = fI f_8 a0 5 := hX.2 5 (by decide)
                obtain ⟨a44, b44, c44, -⟩ := ex_9
                have d44 := c44 0 (by omega) (by omega)
                refine q_iconst hx hb dX10_clashes_71 ?_
                refine lv_istore (lv' := [(5, .int (iI 0)), (0, .ref a0), (1, .int (iI x1)), (2, .int (iI x2)), (3, .int (iI x3)), (4, .int (iI x4))]) hx hb dX10_clashes_72 hl (by decide) rfl (fun ls hl => ?_)
                refine q_iconst hx hb dX10_clashes_74 ?_
                refine lv_istore (lv' := [(6, .int (iI 0)), (5, .int (iI 0)), (0, .ref a0), (1, .int (iI x1)), (2, .int (iI x2)), (3, .int (iI x3)), (4, .int (iI x4))]) hx hb dX10_clashes_75 hl (by decide) rfl (fun ls hl => ?_)
                refine q_iconst hx hb dX10_clashes_77 ?_
                refine lv_istore (lv' := [(7, .int (iI 0)), (6, .int (iI 0)), (5, .int (iI 0)), (0, .ref a0), (1, .int (iI x1)), (2, .int (iI x2)), (3, .int (iI x3)), (4, .int (iI x4))]) hx hb dX10_clashes_78 hl (by decide) rfl (fun ls hl => ?_)
                have J80 : ∀ (n80 : Nat) (y5_80 : Int) (ly5_80 : -2147483648 ≤ y5_80) (uy5_80 : y5_80 ≤ 2147483647) (y6_80 : Int) (ly6_80 : -2147483648 ≤ y6_80) (uy6_80 : y6_80 ≤ 2147483647) (y7_80 : Int) (ly7_80 : -2147483648 ≤ y7_80) (uy7_80 : y7_80 ≤ 2147483647) (i1 : 0 ≤ y7_80) (i2 : 0 ≤ y6_80) (i3 : y6_80 ≤ 36525) (hn80 : ((2147483647 : Int) - y7_80).toNat < n80) (H : Heap) (locs : List Loc) (ls : Array Slot) (hw : Wd D A s.heap L0 f_10 H locs) (hl : lv_has ls 11 [(0, .ref a0), (1, .int (iI x1)), (2, .int (iI x2)), (3, .int (iI x3)), (4, .int (iI x4)), (5, .int (iI y5_80)), (6, .int (iI y6_80)), (7, .int (iI y7_80))]), W p l e ({ frames := 4, cells := 0, slots := 0, locals := 103 } : Room) s m ([.ref a0, .int (iI x1), .int (iI x2), .int (iI x3), .int (iI x4)] : List Value).toArray below meth c H locs (0 + 0 + 0 + 0 + 0 + 0 + 0) (0 + 0 + 0 + 0 + 0 + 0 + 0) (MQ below (Qi D (tq cy) L0 f0 s.heap.size (fun (r : Int) (L1 : List Nat) (f1 : Nat → va_E) => L0 = L1 ∧ MS cy L0 f1 a0 ad ∧ Kp a0 ad [11, 12, 13] [10] f0 f1 ∧ (True))) ([.ref a0, .int (iI x1), .int (iI x2), .int (iI x3), .int (iI x4)] : List Value).toArray s 0 0 A) (F0 m 80 ls []) := by
                  intro n80
                  induction n80 with
                  | zero => intro y5_80 ly5_80 uy5_80 y6_80 ly6_80 uy6_80 y7_80 ly7_80 uy7_80 i1 i2 i3 hn80; exact absurd hn80 (Nat.not_lt_zero _)
                  | succ n80 ih80 =>
                    intro y5_80 ly5_80 uy5_80 y6_80 ly6_80 uy6_80 y7_80 ly7_80 uy7_80 i1 i2 i3 hn80 H locs ls hw hl
                    refine lv_iload hx hb dX10_clashes_80 (lv_at hl 7 rfl) ?_
                    refine lv_aload_n hx hb dX10_clashes_82 rfl (lv_at hl 0 rfl) ?_
                    refine q_getr (ci := 8) (C := RX10) (T := TX10) (N := 26) hx hb hts (fun w h => List.mem_cons_of_mem _ (mfX100 w h)) hown hK hw hs.1 hs.2.1 rfl 13 (by decide) (hts _ (List.mem_cons_of_mem _ (mr3 _ (List.mem_of_getElem? (i := 21) rfl)))) (fun _ h => h) rfl (hs.2.2.1 13 rfl).1 dX10_clashes_83 ?_
                    refine q_iconst hx hb dX10_clashes_86 ?_
                    refine q_iald hx hb hK hw (hs.2.2.1 13 rfl).2.1 1 (hs.2.2.1 13 rfl).2.2 rfl ⟨by decide, by decide⟩ (by omega) (by show _ < ((2 : Nat) : Int); omega) dX10_clashes_87 (fun x_11 lx_11 ux_11 ex_11 => ?_)
                    refine q_icmp_ge (tgt := 230) hx hb dX10_clashes_88 (by decide) ⟨ly7_80, uy7_80⟩ ⟨lx_11, ux_11⟩ (fun c88 => ?_) (fun c88 => ?_)
                    · refine lv_iload hx hb dX10_clashes_230 (lv_at hl 5 rfl) ?_
                      exact q_ret_i hx hb hr hlocks hK hAe hw ⟨ly5_80, uy5_80⟩ (Nat.le_of_ble_eq_true rfl) (Nat.le_of_ble_eq_true rfl) dX10_clashes_232 (by exact ⟨rfl, hs, hE, by first | trivial | omega⟩)
                    · refine lv_aload_n hx hb dX10_clashes_91 rfl (lv_at hl 0 rfl) ?_
                      refine q_getr (ci := 8) (C := RX10) (T := TX10) (N := 26) hx hb hts (fun w h => List.mem_cons_of_mem _ (mfX100 w h)) hown hK hw hs.1 hs.2.1 rfl 11 (by decide) (hts _ (List.mem_cons_of_mem _ (mr3 _ (List.mem_of_getElem? (i := 19) rfl)))) (fun _ h => h) rfl (hs.2.2.1 11 rfl).1 dX10_clashes_92 ?_
                      refine lv_iload hx hb dX10_clashes_95 (lv_at hl 7 rfl) ?_
                      refine q_iald hx hb hK hw (hs.2.2.1 11 rfl).2.1 1 (hs.2.2.1 11 rfl).2.2 rfl ⟨ly7_80, uy7_80⟩ (by omega) (by show _ < ((73050 : Nat) : Int); omega) dX10_clashes_97 (fun x_12 lx_12 ux_12 ex_12 => ?_)
                      refine lv_istore (lv' := [(8, .int (iI x_12)), (0, .ref a0), (1, .int (iI x1)), (2, .int (iI x2)), (3, .int (iI x3)), (4, .int (iI x4)), (5, .int (iI y5_80)), (6, .int (iI y6_80)), (7, .int (iI y7_80))]) hx hb dX10_clashes_98 hl (by decide) rfl (fun ls hl => ?_)
                      have J100 : ∀ (n100 : Nat) (y6_100 : Int) (ly6_100 : -2147483648 ≤ y6_100) (uy6_100 : y6_100 ≤ 2147483647) (n1 : 0 ≤ y6_100) (n2 : y6_100 ≤ 36525) (hn100 : ((2147483647 : Int) - y6_100).toNat < n100) (H : Heap) (locs : List Loc) (ls : Array Slot) (hw : Wd D A s.heap L0 f_10 H locs) (hl : lv_has ls 11 [(0, .ref a0), (1, .int (iI x1)), (2, .int (iI x2)), (3, .int (iI x3)), (4, .int (iI x4)), (5, .int (iI y5_80)), (6, .int (iI y6_100)), (7, .int (iI y7_80)), (8, .int (iI x_12))]), W p l e ({ frames := 4, cells := 0, slots := 0, locals := 103 } : Room) s m ([.ref a0, .int (iI x1), .int (iI x2), .int (iI x3), .int (iI x4)] : List Value).toArray below meth c H locs (0 + 0 + 0 + 0 + 0 + 0 + 0) (0 + 0 + 0 + 0 + 0 + 0 + 0) (MQ below (Qi D (tq cy) L0 f0 s.heap.size (fun (r : Int) (L1 : List Nat) (f1 : Nat → va_E) => L0 = L1 ∧ MS cy L0 f1 a0 ad ∧ Kp a0 ad [11, 12, 13] [10] f0 f1 ∧ (True))) ([.ref a0, .int (iI x1), .int (iI x2), .int (iI x3), .int (iI x4)] : List Value).toArray s 0 0 A) (F0 m 100 ls []) := by
                        intro n100
                        induction n100 with
                        | zero => intro y6_100 ly6_100 uy6_100 n1 n2 hn100; exact absurd hn100 (Nat.not_lt_zero _)
                        | succ n100 ih100 =>
                          intro y6_100 ly6_100 uy6_100 n1 n2 hn100 H locs ls hw hl
                          refine lv_iload hx hb dX10_clashes_100 (lv_at hl 6 rfl) ?_
                          refine lv_aload_n hx hb dX10_clashes_102 rfl (lv_at hl 0 rfl) ?_
                          refine q_getr (ci := 8) (C := RX10) (T := TX10) (N := 26) hx hb hts (fun w h => List.mem_cons_of_mem _ (mfX100 w h)) hown hK hw hs.1 hs.2.1 rfl 13 (by decide) (hts _ (List.mem_cons_of_mem _ (mr3 _ (List.mem_of_getElem? (i := 21) rfl)))) (fun _ h => h) rfl (hs.2.2.1 13 rfl).1 dX10_clashes_103 ?_
                          refine q_iconst hx hb dX10_clashes_106 ?_
                          refine q_iald hx hb hK hw (hs.2.2.1 13 rfl).2.1 1 (hs.2.2.1 13 rfl).2.2 rfl ⟨by decide, by decide⟩ (by omega) (by show _ < ((2 : Nat) : Int); omega) dX10_clashes_107 (fun x_13 lx_13 ux_13 ex_13 => ?_)
                          have J139 : ∀ (H : Heap) (locs : List Loc) (ls : Array Slot) (hw : Wd D A s.heap L0 f_10 H locs) (hl : lv_has ls 11 [(0, .ref a0), (1, .int (iI x1)), (2, .int (iI x2)), (3, .int (iI x3)), (4, .int (iI x4)), (5, .int (iI y5_80)), (6, .int (iI y6_100)), (7, .int (iI y7_80)), (8, .int (iI x_12))]), W p l e ({ frames := 4, cells := 0, slots := 0, locals := 103 } : Room) s m ([.ref a0, .int (iI x1), .int (iI x2), .int (iI x3), .int (iI x4)] : List Value).toArray below meth c H locs (0 + 0 + 0 + 0 + 0 + 0 + 0) (0 + 0 + 0 + 0 + 0 + 0 + 0) (MQ below (Qi D (tq cy) L0 f0 s.heap.size (fun (r : Int) (L1 : List Nat) (f1 : Nat → va_E) => L0 = L1 ∧ MS cy L0 f1 a0 ad ∧ Kp a0 ad [11, 12, 13] [10] f0 f1 ∧ (True))) ([.ref a0, .int (iI x1), .int (iI x2), .int (iI x3), .int (iI x4)] : List Value).toArray s 0 0 A) (F0 m 139 ls []) := by
                            intro H locs ls hw hl
                            refine lv_iload hx hb dX10_clashes_139 (lv_at hl 6 rfl) ?_
                            refine lv_istore (lv' := [(9, .int (iI y6_100)), (0, .ref a0), (1, .int (iI x1)), (2, .int (iI x2)), (3, .int (iI x3)), (4, .int (iI x4)), (5, .int (iI y5_80)), (6, .int (iI y6_100)), (7, .int (iI y7_80)), (8, .int (iI x_12))]) hx hb dX10_clashes_141 hl (by decide) rfl (fun ls hl => ?_)
                            have J143 : ∀ (n143 : Nat) (y5_143 : Int) (ly5_143 : -2147483648 ≤ y5_143) (uy5_143 : y5_143 ≤ 2147483647) (y9_143 : Int) (ly9_143 : -2147483648 ≤ y9_143) (uy9_143 : y9_143 ≤ 2147483647) (m1 : 0 ≤ y9_143) (hn143 : ((2147483647 : Int) - y9_143).toNat < n143) (H : Heap) (locs : List Loc) (ls : Array Slot) (hw : Wd D A s.heap L0 f_10 H locs) (hl : lv_has ls 11 [(0, .ref a0), (1, .int (iI x1)), (2, .int (iI x2)), (3, .int (iI x3)), (4, .int (iI x4)), (5, .int (iI y5_143)), (6, .int (iI y6_100)), (7, .int (iI y7_80)), (8, .int (iI x_12)), (9, .int (iI y9_143))]), W p l e ({ frames := 4, cells := 0, slots := 0, locals := 103 } : Room) s m ([.ref a0, .int (iI x1), .int (iI x2), .int (iI x3), .int (iI x4)] : List Value).toArray below meth c H locs (0 + 0 + 0 + 0 + 0 + 0 + 0) (0 + 0 + 0 + 0 + 0 + 0 + 0) (MQ below (Qi D (tq cy) L0 f0 s.heap.size (fun (r : Int) (L1 : List Nat) (f1 : Nat → va_E) => L0 = L1 ∧ MS cy L0 f1 a0 ad ∧ Kp a0 ad [11, 12, 13] [10] f0 f1 ∧ (True))) ([.ref a0, .int (iI x1), .int (iI x2), .int (iI x3), .int (iI x4)] : List Value).toArray s 0 0 A) (F0 m 143 ls []) := by
                              intro n143
                              induction n143 with
                              | zero => intro y5_143 ly5_143 uy5_143 y9_143 ly9_143 uy9_143 m1 hn143; exact absurd hn143 (Nat.not_lt_zero _)
                              | succ n143 ih143 =>
                                intro y5_143 ly5_143 uy5_143 y9_143 ly9_143 uy9_143 m1 hn143 H locs ls hw hl
                                refine lv_iload hx hb dX10_clashes_143 (lv_at hl 9 rfl) ?_
                                refine lv_aload_n hx hb dX10_clashes_145 rfl (lv_at hl 0 rfl) ?_
                                refine q_getr (ci := 8) (C := RX10) (T := TX10) (N := 26) hx hb hts (fun w h => List.mem_cons_of_mem _ (mfX100 w h)) hown hK hw hs.1 hs.2.1 rfl 13 (by decide) (hts _ (List.mem_cons_of_mem _ (mr3 _ (List.mem_of_getElem? (i := 21) rfl)))) (fun _ h => h) rfl (hs.2.2.1 13 rfl).1 dX10_clashes_146 ?_
                                refine q_iconst hx hb dX10_clashes_149 ?_
                                refine q_iald hx hb hK hw (hs.2.2.1 13 rfl).2.1 1 (hs.2.2.1 13 rfl).2.2 rfl ⟨by decide, by decide⟩ (by omega) (by show _ < ((2 : Nat) : Int); omega) dX10_clashes_150 (fun x_14 lx_14 ux_14 ex_14 => ?_)
                                have J224 : ∀ (H : Heap) (locs : List Loc) (ls : Array Slot) (hw : Wd D A s.heap L0 f_10 H locs) (hl : lv_has ls 11 [(0, .ref a0), (1, .int (iI x1)), (2, .int (iI x2)), (3, .int (iI x3)), (4, .int (iI x4)), (5, .int (iI y5_143)), (6, .int (iI y6_100)), (7, .int (iI y7_80))]), W p l e ({ frames := 4, cells := 0, slots := 0, locals := 103 } : Room) s m ([.ref a0, .int (iI x1), .int (iI x2), .int (iI x3), .int (iI x4)] : List Value).toArray below meth c H locs (0 + 0 + 0 + 0 + 0 + 0 + 0) (0 + 0 + 0 + 0 + 0 + 0 + 0) (MQ below (Qi D (tq cy) L0 f0 s.heap.size (fun (r : Int) (L1 : List Nat) (f1 : Nat → va_E) => L0 = L1 ∧ MS cy L0 f1 a0 ad ∧ Kp a0 ad [11, 12, 13] [10] f0 f1 ∧ (True))) ([.ref a0, .int (iI x1), .int (iI x2), .int (iI x3), .int (iI x4)] : List Value).toArray s 0 0 A) (F0 m 224 ls []) := by
                                  intro H locs ls hw hl
                                  obtain ⟨x_15, lx_15, ux_15, hx_15, ex_15⟩ := q_inc y7_80 (1)
                                  try (replace ex_15 : x_15 = y7_80 + (1) := by omega)
                                  refine lv_iinc (v := iI x_15) (lv' := [(7, .int (iI x_15)), (0, .ref a0), (1, .int (iI x1)), (2, .int (iI x2)), (3, .int (iI x3)), (4, .int (iI x4)), (5, .int (iI y5_143)), (6, .int (iI y6_100))]) hx hb dX10_clashes_224 hl (k := 7) rfl hx_15 (by decide) rfl (fun ls hl => ?_)
                                  refine lv_goto (tgt := 80) hx hb dX10_clashes_227 (by decide) ?_
                                  exact ih80 y5_143 ly5_143 uy5_143 y6_100 ly6_100 uy6_100 x_15 lx_15 ux_15 (by omega) (by omega) (by omega) (by omega) _ _ _ hw (lv_sub hl [1, 2, 3, 4, 5, 6, 7, 0] rfl)
                                refine q_icmp_ge (tgt := 224) hx hb dX10_clashes_151 (by decide) ⟨ly9_143, uy9_143⟩ ⟨lx_14, ux_14⟩ (fun c151 => ?_) (fun c151 => ?_)
                                · exact J224 _ _ _ hw (lv_sub hl [0, 1, 2, 3, 4, 5, 6, 7] rfl)
                                · refine lv_aload_n hx hb dX10_clashes_154 rfl (lv_at hl 0 rfl) ?_
                                  refine q_getr (ci := 8) (C := RX10) (T := TX10) (N := 26) hx hb hts (fun w h => List.mem_cons_of_mem _ (mfX100 w h)) hown hK hw hs.1 hs.2.1 rfl 11 (by decide) (hts _ (List.mem_cons_of_mem _ (mr3 _ (List.mem_of_getElem? (i := 19) rfl)))) (fun _ h => h) rfl (hs.2.2.1 11 rfl).1 dX10_clashes_155 ?_
                                  refine q_ldc (n := 36525) hx hb hown (hts _ (List.mem_cons_of_mem _ (mr3 _ (List.mem_of_getElem? (i := 9) rfl)))) rfl dX10_clashes_158 ?_
                                  refine lv_iload hx hb dX10_clashes_160 (lv_at hl 9 rfl) ?_
                                  first | refine q_iadd hx hb dX10_clashes_162 ⟨by omega, by omega⟩ (fun x_16 lx_16 ux_16 ex_16 => ?_) | refine q_iaddw hx hb dX10_clashes_162 (fun x_16 lx_16 ux_16 ex_16 => ?_)
                                  refine q_iald hx hb hK hw (hs.2.2.1 11 rfl).2.1 1 (hs.2.2.1 11 rfl).2.2 rfl ⟨lx_16, ux_16⟩ (by omega) (by show _ < ((73050 : Nat) : Int); omega) dX10_clashes_163 (fun x_17 lx_17 ux_17 ex_17 => ?_)
                                  refine lv_iload hx hb dX10_clashes_164 (lv_at hl 8 rfl) ?_
                                  refine lv_aload_n hx hb dX10_clashes_166 rfl (lv_at hl 0 rfl) ?_
                                  refine lv_iload_n hx hb dX10_clashes_167 rfl (lv_at hl 1 rfl) ?_
                                  refine q_iconst hx hb dX10_clashes_168 ?_
                                  refine q_call_i hA hK hw (va_runV (As := [.int (iI x1), .int (iI 2)]) (rest := [.int (iI x_12), .int (iI x_17)]) ⟨hx, hb, hml, hown, hts⟩ (c_X10_get zo l D cy L0 f_10 a0 x1 lx1 ux1 2 (by decide) (by decide) ad hs (by omega) (by omega) (by omega) (by omega) _) (cwV 2 hts (gT (inV (mr25 _ (List.mem_of_getElem? (i := 0) rfl)) (mr25 _ (List.mem_of_getElem? (i := 1) rfl)) (mr25 _ (List.mem_of_getElem? (i := 2) rfl)) (mr1 _ (List.mem_of_getElem? (i := 5) rfl)) (mr25 _ (List.mem_of_getElem? (i := 3) rfl)))) rfl rfl rfl (by decide +kernel) ⟨Nat.le_of_ble_eq_true rfl, Nat.le_of_ble_eq_true rfl⟩) (Wd.preV zo hA hZ hw hK hs.1 hs.2.1 rfl) rfl rfl hl.1 rfl (lv_room (Nat.le_of_ble_eq_true rfl)) dX10_clashes_169 ⟨Nat.le_of_ble_eq_true rfl, Nat.le_of_ble_eq_true rfl⟩) (fun x_18 L1 f1 H locs lx_18 ux_18 ex_18 hw => ?_)
                                  obtain ⟨rfl, rfl, ex_18⟩ := ex_18
                                  first | refine q_iadd hx hb dX10_clashes_172 ⟨by omega, by omega⟩ (fun x_19 lx_19 ux_19 ex_19 => ?_) | refine q_iaddw hx hb dX10_clashes_172 (fun x_19 lx_19 ux_19 ex_19 => ?_)
                                  refine q_icmp_ge (tgt := 224) hx hb dX10_clashes_173 (by decide) ⟨lx_17, ux_17⟩ ⟨lx_19, ux_19⟩ (fun c173 => ?_) (fun c173 => ?_)
                                  · exact J224 _ _ _ hw (lv_sub hl [0, 1, 2, 3, 4, 5, 6, 7] rfl)
                                  · refine lv_aload_n hx hb dX10_clashes_176 rfl (lv_at hl 0 rfl) ?_
                                    refine q_getr (ci := 8) (C := RX10) (T := TX10) (N := 26) hx hb hts (fun w h => List.mem_cons_of_mem _ (mfX100 w h)) hown hK hw hs.1 hs.2.1 rfl 11 (by decide) (hts _ (List.mem_cons_of_mem _ (mr3 _ (List.mem_of_getElem? (i := 19) rfl)))) (fun _ h => h) rfl (hs.2.2.1 11 rfl).1 dX10_clashes_177 ?_
                                    refine q_ldc (n := 36525) hx hb hown (hts _ (List.mem_cons_of_mem _ (mr3 _ (List.mem_of_getElem? (i := 9) rfl)))) rfl dX10_clashes_180 ?_
                                    refine lv_iload hx hb dX10_clashes_182 (lv_at hl 9 rfl) ?_
                                    first | refine q_iadd hx hb dX10_clashes_184 ⟨by omega, by omega⟩ (fun x_20 lx_20 ux_20 ex_20 => ?_) | refine q_iaddw hx hb dX10_clashes_184 (fun x_20 lx_20 ux_20 ex_20 => ?_)
                                    refine q_iald hx hb hK hw (hs.2.2.1 11 rfl).2.1 1 (hs.2.2.1 11 rfl).2.2 rfl ⟨lx_20, ux_20⟩ (by omega) (by show _ < ((73050 : Nat) : Int); omega) dX10_clashes_185 (fun x_21 lx_21 ux_21 ex_21 => ?_)
                                    refine lv_istore (lv' := [(10, .int (iI x_21)), (0, .ref a0), (1, .int (iI x1)), (2, .int (iI x2)), (3, .int (iI x3)), (4, .int (iI x4)), (5, .int (iI y5_143)), (6, .int (iI y6_100)), (7, .int (iI y7_80)), (8, .int (iI x_12)), (9, .int (iI y9_143))]) hx hb dX10_clashes_186 hl (by decide) rfl (fun ls hl => ?_)
                                    refine lv_iload hx hb dX10_clashes_188 (lv_at hl 9 rfl) ?_
                                    refine lv_iload hx hb dX10_clashes_190 (lv_at hl 0 rfl) ?_
                                    have J202 : ∀ (w0_202 : Int) (lw0_202 : -2147483648 ≤ w0_202) (uw0_202 : w0_202 ≤ 2147483647) (H : Heap) (locs : List Loc) (ls : Array Slot) (hw : Wd D A s.heap L0 f_10 H locs) (hl : lv_has ls 11 [(0, .ref a0), (1, .int (iI x1)), (2, .int (iI x2)), (3, .int (iI x3)), (4, .int (iI x4)), (5, .int (iI y5_143)), (6, .int (iI y6_100)), (7, .int (iI y7_80)), (8, .int (iI x_12)), (9, .int (iI y9_143))]), W p l e ({ frames := 4, cells := 0, slots := 0, locals := 103 } : Room) s m ([.ref a0, .int (iI x1), .int (iI x2), .int (iI x3), .int (iI x4)] : List Value).toArray below meth c H locs (0 + 0 + 0 + 0 + 0 + 0 + 0 + 0) (0 + 0 + 0 + 0 + 0 + 0 + 0 + 0) (MQ below (Qi D (tq cy) L0 f0 s.heap.size (fun (r : Int) (L1 : List Nat) (f1 : Nat → va_E) => L0 = L1 ∧ MS cy L0 f1 a0 ad ∧ Kp a0 ad [11, 12, 13] [10] f0 f1 ∧ (True))) ([.ref a0, .int (iI x1), .int (iI x2), .int (iI x3), .int (iI x4)] : List Value).toArray s 0 0 A) (F0 m 202 ls [.int (iI w0_202)]) := by
                                      intro w0_202 lw0_202 uw0_202 H locs ls hw hl
                                      refine q_sipush hx hb dX10_clashes_202 rfl ?_
                                      first | refine q_idiv hx hb dX10_clashes_205 ⟨lw0_202, uw0_202⟩ ⟨by decide, by decide⟩ (by omega) (by omega) (fun x_22 lx_22 ux_22 ex_22 => ?_) | refine q_idivw hx hb dX10_clashes_205 ⟨lw0_202, uw0_202⟩ ⟨by decide, by decide⟩ (by omega) (fun x_22 lx_22 ux_22 ex_22 => ?_)
                                      refine lv_iload_n hx hb dX10_clashes_206 rfl (lv_at hl 3 rfl) ?_
                                      refine lv_iload hx hb dX10_clashes_207 (lv_at hl 4 rfl) ?_
                                      refine q_call_i hA hK hw (va_runS (As := [.int (iI x_22), .int (iI x3), .int (iI x4)]) (rest := []) ⟨hx, hb, hml, hown, hts⟩ (c_X10_within zo l D cy L0 f_10 x_22 lx_22 ux_22 x3 lx3 ux3 x4 lx4 ux4 _) (va_cwS 3 hts (gT (inS (mr5 _ (List.mem_of_getElem? (i := 9) rfl)) (mr5 _ (List.mem_of_getElem? (i := 10) rfl)) (mr1 _ (List.mem_of_getElem? (i := 5) rfl)) (mr5 _ (List.mem_of_getElem? (i := 11) rfl)))) rfl rfl rfl (by decide +kernel) ⟨Nat.le_of_ble_eq_true rfl, Nat.le_of_ble_eq_true rfl⟩) (Wd.preS zo hA hZ hw hK) rfl rfl hl.1 rfl (lv_room (Nat.le_of_ble_eq_true rfl)) dX10_clashes_209 ⟨Nat.le_of_ble_eq_true rfl, Nat.le_of_ble_eq_true rfl⟩) (fun x_23 L1 f1 H locs lx_23 ux_23 ex_23 hw => ?_)
                                      obtain ⟨rfl, rfl, ex_23⟩ := ex_23
                                      have J218 : ∀ (z5_218 : Int) (lz5_218 : -2147483648 ≤ z5_218) (uz5_218 : z5_218 ≤ 2147483647) (H : Heap) (locs : List Loc) (ls : Array Slot) (hw : Wd D A s.heap L0 f_10 H locs) (hl : lv_has ls 11 [(0, .ref a0), (1, .int (iI x1)), (2, .int (iI x2)), (3, .int (iI x3)), (4, .int (iI x4)), (5, .int (iI z5_218)), (6, .int (iI y6_100)), (7, .int (iI y7_80)), (8, .int (iI x_12)), (9, .int (iI y9_143))]), W p l e ({ frames := 4, cells := 0, slots := 0, locals := 103 } : Room) s m ([.ref a0, .int (iI x1), .int (iI x2), .int (iI x3), .int (iI x4)] : List Value).toArray below meth c H locs (0 + 0 + 0 + 0 + 0 + 0 + 0 + 0 + 0) (0 + 0 + 0 + 0 + 0 + 0 + 0 + 0 + 0) (MQ below (Qi D (tq cy) L0 f0 s.heap.size (fun (r : Int) (L1 : List Nat) (f1 : Nat → va_E) => L0 = L1 ∧ MS cy L0 f1 a0 ad ∧ Kp a0 ad [11, 12, 13] [10] f0 f1 ∧ (True))) ([.ref a0, .int (iI x1), .int (iI x2), .int (iI x3), .int (iI x4)] : List Value).toArray s 0 0 A) (F0 m 218 ls []) := by
                                        intro z5_218 lz5_218 uz5_218 H locs ls hw hl
                                        obtain ⟨x_24, lx_24, ux_24, hx_24, ex_24⟩ := q_inc y9_143 (1)
                                        try (replace ex_24 : x_24 = y9_143 + (1) := by omega)
                                        refine lv_iinc (v := iI x_24) (lv' := [(9, .int (iI x_24)), (0, .ref a0), (1, .int (iI x1)), (2, .int (iI x2)), (3, .int (iI x3)), (4, .int (iI x4)), (5, .int (iI z5_218)), (6, .int (iI y6_100)), (7, .int (iI y7_80)), (8, .int (iI x_12))]) hx hb dX10_clashes_218 hl (k := 9) rfl hx_24 (by decide) rfl (fun ls hl => ?_)
                                        refine lv_goto (tgt := 143) hx hb dX10_clashes_221 (by decide) ?_
                                        exact ih143 z5_218 lz5_218 uz5_218 x_24 lx_24 ux_24 (by omega) (by omega) _ _ _ hw (lv_sub hl [1, 2, 3, 4, 5, 6, 7, 8, 9, 0] rfl)
                                      refine q_if_eq (tgt := 218) hx hb dX10_clashes_212 (by decide) ⟨lx_23, ux_23⟩ (fun c212 => ?_) (fun c212 => ?_)
                                      · exact J218 y5_143 ly5_143 uy5_143 _ _ _ hw (lv_sub hl [0, 1, 2, 3, 4, 5, 6, 7, 8, 9] rfl)
                                      · obtain ⟨x_25, lx_25, ux_25, hx_25, ex_25⟩ := q_inc y5_143 (1)
                                        try (replace ex_25 : x_25 = y5_143 + (1) := by omega)
                                        refine lv_iinc (v := iI x_25) (lv' := [(5, .int (iI x_25)), (0, .ref a0), (1, .int (iI x1)), (2, .int (iI x2)), (3, .int (iI x3)), (4, .int (iI x4)), (6, .int (iI y6_100)), (7, .int (iI y7_80)), (8, .int (iI x_12)), (9, .int (iI y9_143))]) hx hb dX10_clashes_215 hl (k := 5) rfl hx_25 (by decide) rfl (fun ls hl => ?_)
                                        exact J218 x_25 lx_25 ux_25 _ _ _ hw (lv_sub hl [1, 2, 3, 4, 5, 0, 6, 7, 8, 9] rfl)
                                    refine q_icmp_le (tgt := 200) hx hb dX10_clashes_192 (by decide) ⟨lx_12, ux_12⟩ ⟨lx_21, ux_21⟩ (fun c192 => ?_) (fun c192 => ?_)
                                    · refine lv_iload hx hb dX10_clashes_200 (lv_at hl 0 rfl) ?_
                                      exact J202 x_21 lx_21 ux_21 _ _ _ hw (lv_sub hl [1, 2, 3, 4, 5, 6, 7, 8, 9, 10] rfl)
                                    · refine lv_iload hx hb dX10_clashes_195 (lv_at hl 9 rfl) ?_
                                      refine lv_goto (tgt := 202) hx hb dX10_clashes_197 (by decide) ?_
                                      exact J202 x_12 lx_12 ux_12 _ _ _ hw (lv_sub hl [1, 2, 3, 4, 5, 6, 7, 8, 9, 10] rfl)
                            exact J143 ((((2147483647 : Int) - y6_100).toNat) + 1) y5_80 ly5_80 uy5_80 y6_100 ly6_100 uy6_100 (by omega) (by omega) _ _ _ hw (lv_sub hl [1, 2, 3, 4, 5, 6, 7, 8, 9, 0] rfl)
                          refine q_icmp_ge (tgt := 139) hx hb dX10_clashes_108 (by decide) ⟨ly6_100, uy6_100⟩ ⟨lx_13, ux_13⟩ (fun c108 => ?_) (fun c108 => ?_)
                          · exact J139 _ _ _ hw (lv_sub hl [0, 1, 2, 3, 4, 5, 6, 7, 8] rfl)
                          · refine lv_aload_n hx hb dX10_clashes_111 rfl (lv_at hl 0 rfl) ?_
                            refine q_getr (ci := 8) (C := RX10) (T := TX10) (N := 26) hx hb hts (fun w h => List.mem_cons_of_mem _ (mfX100 w h)) hown hK hw hs.1 hs.2.1 rfl 11 (by decide) (hts _ (List.mem_cons_of_mem _ (mr3 _ (List.mem_of_getElem? (i := 19) rfl)))) (fun _ h => h) rfl (hs.2.2.1 11 rfl).1 dX10_clashes_112 ?_
                            refine q_ldc (n := 36525) hx hb hown (hts _ (List.mem_cons_of_mem _ (mr3 _ (List.mem_of_getElem? (i := 9) rfl)))) rfl dX10_clashes_115 ?_
                            refine lv_iload hx hb dX10_clashes_117 (lv_at hl 6 rfl) ?_
                            first | refine q_iadd hx hb dX10_clashes_119 ⟨by omega, by omega⟩ (fun x_26 lx_26 ux_26 ex_26 => ?_) | refine q_iaddw hx hb dX10_clashes_119 (fun x_26 lx_26 ux_26 ex_26 => ?_)
                            refine q_iald hx hb hK hw (hs.2.2.1 11 rfl).2.1 1 (hs.2.2.1 11 rfl).2.2 rfl ⟨lx_26, ux_26⟩ (by omega) (by show _ < ((73050 : Nat) : Int); omega) dX10_clashes_120 (fun x_27 lx_27 ux_27 ex_27 => ?_)
                            refine lv_aload_n hx hb dX10_clashes_121 rfl (lv_at hl 0 rfl) ?_
                            refine lv_iload_n hx hb dX10_clashes_122 rfl (lv_at hl 2 rfl) ?_
                            refine q_iconst hx hb dX10_clashes_123 ?_
                            refine q_call_i hA hK hw (va_runV (As := [.int (iI x2), .int (iI 2)]) (rest := [.int (iI x_27)]) ⟨hx, hb, hml, hown, hts⟩ (c_X10_get zo l D cy L0 f_10 a0 x2 lx2 ux2 2 (by decide) (by decide) ad hs (by omega) (by omega) (by omega) (by omega) _) (cwV 2 hts (gT (inV (mr25 _ (List.mem_of_getElem? (i := 0) rfl)) (mr25 _ (List.mem_of_getElem? (i := 1) rfl)) (mr25 _ (List.mem_of_getElem? (i := 2) rfl)) (mr1 _ (List.mem_of_getElem? (i := 5) rfl)) (mr25 _ (List.mem_of_getElem? (i := 3) rfl)))) rfl rfl rfl (by decide +kernel) ⟨Nat.le_of_ble_eq_true rfl, Nat.le_of_ble_eq_true rfl⟩) (Wd.preV zo hA hZ hw hK hs.1 hs.2.1 rfl) rfl rfl hl.1 rfl (lv_room (Nat.le_of_ble_eq_true rfl)) dX10_clashes_124 ⟨Nat.le_of_ble_eq_true rfl, Nat.le_of_ble_eq_true rfl⟩) (fun x_28 L1 f1 H locs lx_28 ux_28 ex_28 hw => ?_)
                            obtain ⟨rfl, rfl, ex_28⟩ := ex_28
                            first | refine q_iadd hx hb dX10_clashes_127 ⟨by omega, by omega⟩ (fun x_29 lx_29 ux_29 ex_29 => ?_) | refine q_iaddw hx hb dX10_clashes_127 (fun x_29 lx_29 ux_29 ex_29 => ?_)
                            refine lv_iload hx hb dX10_clashes_128 (lv_at hl 8 rfl) ?_
                            refine q_icmp_gt (tgt := 139) hx hb dX10_clashes_130 (by decide) ⟨lx_29, ux_29⟩ ⟨lx_12, ux_12⟩ (fun c130 => ?_) (fun c130 => ?_)
                            · exact J139 _ _ _ hw (lv_sub hl [0, 1, 2, 3, 4, 5, 6, 7, 8] rfl)
                            · obtain ⟨x_30, lx_30, ux_30, hx_30, ex_30⟩ := q_inc y6_100 (1)
                              try (replace ex_30 : x_30 = y6_100 + (1) := by omega)
                              refine lv_iinc (v := iI x_30) (lv' := [(6, .int (iI x_30)), (0, .ref a0), (1, .int (iI x1)), (2, .int (iI x2)), (3, .int (iI x3)), (4, .int (iI x4)), (5, .int (iI y5_80)), (7, .int (iI y7_80)), (8, .int (iI x_12))]) hx hb dX10_clashes_133 hl (k := 6) rfl hx_30 (by decide) rfl (fun ls hl => ?_)
                              refine lv_goto (tgt := 100) hx hb dX10_clashes_136 (by decide) ?_
                              exact ih100 x_30 lx_30 ux_30 (by omega) (by omega) (by omega) _ _ _ hw (lv_sub hl [1, 2, 3, 4, 5, 6, 0, 7, 8] rfl)
                      exact J100 ((((2147483647 : Int) - y6_80).toNat) + 1) y6_80 ly6_80 uy6_80 (by omega) (by omega) (by omega) _ _ _ hw (lv_sub hl [1, 2, 3, 4, 5, 6, 7, 8, 0] rfl)
                exact J80 ((((2147483647 : Int) - 0).toNat) + 1) 0 (by decide) (by decide) 0 (by decide) (by decide) 0 (by decide) (by decide) (by omega) (by omega) (by omega) (by omega) _ _ _ hw (lv_sub hl [3, 4, 5, 6, 7, 2, 1, 0] rfl)
              · refine q_iconst hx hb dX10_clashes_57 ?_
                exact q_ret_i hx hb hr hlocks hK hAe hw ⟨by decide, by decide⟩ (Nat.le_of_ble_eq_true rfl) (Nat.le_of_ble_eq_true rfl) dX10_clashes_58 (by exact ⟨rfl, hs, hE, by first | trivial | omega⟩)
set_option maxHeartbeats 4000000 in
set_option maxRecDepth 100000 in
theorem c_X10_roomClash {Z : Zt} (zo : Zok Z) (l : Launch) (D : va_G) (cy : Cy) (L0 : List Nat) (f0 : Nat → va_E) (a0 : Nat) (x1 : Int) (lx1 : -2147483648 ≤ x1) (ux1 : x1 ≤ 2147483647) (x2 : Int) (lx2 : -2147483648 ≤ x2) (ux2 : x2 ≤ 2147483647) (x3 : Int) (lx3 : -2147483648 ≤ x3) (ux3 : x3 ≤ 2147483647) (ad : Nat → Nat) (hs : MS cy L0 f0 a0 ad) (hv : MV f0 a0 ad) : Ci Z l yX10_roomClash (Cond.code yX10_roomClash cX10_roomClash 10 (some .int) :: TB) ({ frames := 4, cells := 0, slots := 0, locals := 103 } : Room) 0 0 D (tq cy) [.ref a0, .int (iI x1), .int (iI x2), .int (iI x3)] L0 f0 (fun (r : Int) (L1 : List Nat) (f1 : Nat → va_E) => L0 = L1 ∧ MS cy L0 f1 a0 ad ∧ Kp a0 ad [11, 12, 13] [10] f0 f1 ∧ (True)) := by
  refine Ci.enter (cc := cX10_roomClash) (n := 10) rfl (plainFor_of_name (by decide)) (Nat.le_of_ble_eq_true rfl) ?_
  intro p e s m below meth c ls A hx hb hr hts hown hlocks hnm hml hK hA hAe hw hZ hl
  have hown : s.vm.findClass RX10 = some m.cls := hown
  have hl : lv_has ls 10 [(0, .ref a0), (1, .int (iI x1)), (2, .int (iI x2)), (3, .int (iI x3))] := hl
  have hN : ZN s := (zo.2.2.2.2 _ _ _ hZ).2
  have hE : Kp a0 ad [11, 12, 13] [10] f0 f0 := Kp.refl _ _ _ _ _
  have m5 := hv.1
  have m6 := hv.2.1
  refine lv_aload_n hx hb dX10_roomClash_0 rfl (lv_at hl 0 rfl) ?_
  refine q_iconst hx hb dX10_roomClash_1 ?_
  refine q_puti (ci := 8) (C := RX10) (T := TX10) (N := 26) hx hb hts (fun w h => List.mem_cons_of_mem _ (mfX100 w h)) hown hK hw hs.1 hs.2.1 rfl 10 (by decide) (hts _ (List.mem_cons_of_mem _ (mr4 _ (List.mem_of_getElem? (i := 19) rfl)))) (fun _ h => h) tyX10 tyX10_ok nmX10 rfl (ty := .int) (by decide +kernel) rfl rfl dX10_roomClash_2 (fun H locs hw => ?_)
  obtain ⟨f_1, ef_1⟩ : ∃ g : Nat → va_E, g = pU f0 a0 10 (.int (iI 0)) := ⟨_, rfl⟩
  have v10_f_1 : fI f_1 a0 10 = 0 := by rw [ef_1]; exact fI_pU_self hs.2.1 rfl ⟨by decide, by decide⟩
  have t5_f_1 : fI f_1 a0 5 = fI f0 a0 5 := by rw [ef_1]; exact fI_pU (Or.inr (by decide))
  have hE := hE.trans (show Kp a0 ad [11, 12, 13] [10] f0 f_1 by rw [ef_1]; exact Kp_pU hs (by decide))
  have hs : MS cy L0 f_1 a0 ad := by rw [ef_1]; exact MS_pU hs rfl
  rw [← ef_1] at hw
  refine lv_iload_n hx hb dX10_roomClash_5 rfl (lv_at hl 1 rfl) ?_
  refine q_iconst hx hb dX10_roomClash_6 ?_
  refine q_bipush hx hb dX10_roomClash_7 rfl ?_
  refine q_call_i hA hK hw (va_runS (As := [.int (iI x1), .int (iI 0), .int (iI 7)]) (rest := []) ⟨hx, hb, hml, hown, hts⟩ (c_X10_within zo l D cy L0 f_1 x1 lx1 ux1 0 (by decide) (by decide) 7 (by decide) (by decide) _) (va_cwS 3 hts (gT (inS (mr5 _ (List.mem_of_getElem? (i := 9) rfl)) (mr5 _ (List.mem_of_getElem? (i := 10) rfl)) (mr1 _ (List.mem_of_getElem? (i := 5) rfl)) (mr5 _ (List.mem_of_getElem? (i := 11) rfl)))) rfl rfl rfl (by decide +kernel) ⟨Nat.le_of_ble_eq_true rfl, Nat.le_of_ble_eq_true rfl⟩) (Wd.preS zo hA hZ hw hK) rfl rfl hl.1 rfl (lv_room (Nat.le_of_ble_eq_true rfl)) dX10_roomClash_9 ⟨Nat.le_of_ble_eq_true rfl, Nat.le_of_ble_eq_true rfl⟩) (fun x_2 L1 f1 H locs lx_2 ux_2 ex_2 hw => ?_)
  obtain ⟨rfl, rfl, ex_2⟩ := ex_2
  refine q_if_eq (tgt := 31) hx hb dX10_roomClash_12 (by decide) ⟨lx_2, ux_2⟩ (fun c12 => ?_) (fun c12 => ?_)
  · refine q_iconst hx hb dX10_roomClash_31 ?_
    exact q_ret_i hx hb hr hlocks hK hAe hw ⟨by decide, by decide⟩ (Nat.le_of_ble_eq_true rfl) (Nat.le_of_ble_eq_true rfl) dX10_roomClash_32 (by exact ⟨rfl, hs, hE, by first | trivial | omega⟩)
  · refine lv_iload_n hx hb dX10_roomClash_15 rfl (lv_at hl 2 rfl) ?_
    refine q_call_i hA hK hw (va_runS (As := [.int (iI x2)]) (rest := []) ⟨hx, hb, hml, hown, hts⟩ (c_X10_isTime zo l D cy L0 f_1 x2 lx2 ux2 _) (va_cwS 1 hts (gT (inS (mr28 _ (List.mem_of_getElem? (i := 3) rfl)) (mr28 _ (List.mem_of_getElem? (i := 4) rfl)) (mr1 _ (List.mem_of_getElem? (i := 5) rfl)) (mr28 _ (List.mem_of_getElem? (i := 5) rfl)))) rfl rfl rfl (by decide +kernel) ⟨Nat.le_of_ble_eq_true rfl, Nat.le_of_ble_eq_true rfl⟩) (Wd.preS zo hA hZ hw hK) rfl rfl hl.1 rfl (lv_room (Nat.le_of_ble_eq_true rfl)) dX10_roomClash_16 ⟨Nat.le_of_ble_eq_true rfl, Nat.le_of_ble_eq_true rfl⟩) (fun x_3 L1 f1 H locs lx_3 ux_3 ex_3 hw => ?_)
    obtain ⟨rfl, rfl, ex_3⟩ := ex_3
    refine q_if_eq (tgt := 31) hx hb dX10_roomClash_19 (by decide) ⟨lx_3, ux_3⟩ (fun c19 => ?_) (fun c19 => ?_)
    · refine q_iconst hx hb dX10_roomClash_31 ?_
      exact q_ret_i hx hb hr hlocks hK hAe hw ⟨by decide, by decide⟩ (Nat.le_of_ble_eq_true rfl) (Nat.le_of_ble_eq_true rfl) dX10_roomClash_32 (by exact ⟨rfl, hs, hE, by first | trivial | omega⟩)
    · refine lv_iload_n hx hb dX10_roomClash_22 rfl (lv_at hl 3 rfl) ?_
      refine q_iconst hx hb dX10_roomClash_23 ?_
      refine q_iconst hx hb dX10_roomClash_24 ?_
      refine q_call_i hA hK hw (va_runS (As := [.int (iI x3), .int (iI 0), .int (iI 2)]) (rest := []) ⟨hx, hb, hml, hown, hts⟩ (c_X10_within zo l D cy L0 f_1 x3 lx3 ux3 0 (by decide) (by decide) 2 (by decide) (by decide) _) (va_cwS 3 hts (gT (inS (mr5 _ (List.mem_of_getElem? (i := 9) rfl)) (mr5 _ (List.mem_of_getElem? (i := 10) rfl)) (mr1 _ (List.mem_of_getElem? (i := 5) rfl)) (mr5 _ (List.mem_of_getElem? (i := 11) rfl)))) rfl rfl rfl (by decide +kernel) ⟨Nat.le_of_ble_eq_true rfl, Nat.le_of_ble_eq_true rfl⟩) (Wd.preS zo hA hZ hw hK) rfl rfl hl.1 rfl (lv_room (Nat.le_of_ble_eq_true rfl)) dX10_roomClash_25 ⟨Nat.le_of_ble_eq_true rfl, Nat.le_of_ble_eq_true rfl⟩) (fun x_4 L1 f1 H locs lx_4 ux_4 ex_4 hw => ?_)
      obtain ⟨rfl, rfl, ex_4⟩ := ex_4
      refine q_if_ne (tgt := 33) hx hb dX10_roomClash_28 (by decide) ⟨lx_4, ux_4⟩ (fun c28 => ?_) (fun c28 => ?_)
      · refine q_iconst hx hb dX10_roomClash_33 ?_
        refine lv_istore (lv' := [(4, .int (iI ((-1)))), (0, .ref a0), (1, .int (iI x1)), (2, .int (iI x2)), (3, .int (iI x3))]) hx hb dX10_roomClash_34 hl (by decide) rfl (fun ls hl => ?_)
        refine q_iconst hx hb dX10_roomClash_36 ?_
        refine lv_istore (lv' := [(5, .int (iI ((-1)))), (4, .int (iI ((-1)))), (0, .ref a0), (1, .int (iI x1)), (2, .int (iI x2)), (3, .int (iI x3))]) hx hb dX10_roomClash_37 hl (by decide) rfl (fun ls hl => ?_)
        refine q_iconst hx hb dX10_roomClash_39 ?_
        refine lv_istore (lv' := [(6, .int (iI ((-1)))), (5, .int (iI ((-1)))), (4, .int (iI ((-1)))), (0, .ref a0), (1, .int (iI x1)), (2, .int (iI x2)), (3, .int (iI x3))]) hx hb dX10_roomClash_40 hl (by decide) rfl (fun ls hl => ?_)
        refine q_iconst hx hb dX10_roomClash_42 ?_
        refine lv_istore (lv' := [(7, .int (iI 0)), (6, .int (iI ((-1)))), (5, .int (iI ((-1)))), (4, .int (iI ((-1)))), (0, .ref a0), (1, .int (iI x1)), (2, .int (iI x2)), (3, .int (iI x3))]) hx hb dX10_roomClash_43 hl (by decide) rfl (fun ls hl => ?_)
        have J45 : ∀ (n45 : Nat) (y4_45 : Int) (ly4_45 : -2147483648 ≤ y4_45) (uy4_45 : y4_45 ≤ 2147483647) (y5_45 : Int) (ly5_45 : -2147483648 ≤ y5_45) (uy5_45 : y5_45 ≤ 2147483647) (y6_45 : Int) (ly6_45 : -2147483648 ≤ y6_45) (uy6_45 : y6_45 ≤ 2147483647) (y7_45 : Int) (ly7_45 : -2147483648 ≤ y7_45) (uy7_45 : y7_45 ≤ 2147483647) (L : List Nat) (fw45 : Nat → va_E) (hs : MS cy L0 fw45 a0 ad) (hE : Kp a0 ad [11, 12, 13] [10] f0 fw45) (i1 : 0 ≤ y7_45) (u5 : fI fw45 a0 5 = fI f0 a0 5) (hn45 : ((2147483647 : Int) - y7_45).toNat < n45) (H : Heap) (locs : List Loc) (ls : Array Slot) (hw : Wd D A s.heap L0 fw45 H locs) (hl : lv_has ls 10 [(0, .ref a0), (1, .int (iI x1)), (2, .int (iI x2)), (3, .int (iI x3)), (4, .int (iI y4_45)), (5, .int (iI y5_45)), (6, .int (iI y6_45)), (7, .int (iI y7_45))]), W p l e ({ frames := 4, cells := 0, slots := 0, locals := 103 } : Room) s m ([.ref a0, .int (iI x1), .int (iI x2), .int (iI x3)] : List Value).toArray below meth c H locs (0 + 0 + 0 + 0) (0 + 0 + 0 + 0) (MQ below (Qi D (tq cy) L0 f0 s.heap.size (fun (r : Int) (L1 : List Nat) (f1 : Nat → va_E) => L0 = L1 ∧ MS cy L0 f1 a0 ad ∧ Kp a0 ad [11, 12, 13] [10] f0 f1 ∧ (True))) ([.ref a0, .int (iI x1), .int (iI x2), .int (iI x3)] : List Value).toArray s 0 0 A) (F0 m 45 ls []) := by
          intro n45
          induction n45 with
          | zero => intro y4_45 ly4_45 uy4_45 y5_45 ly5_45 uy5_45 y6_45 ly6_45 uy6_45 y7_45 ly7_45 uy7_45 L fw45 hs hE i1 u5 hn45; exact absurd hn45 (Nat.not_lt_zero _)
          | succ n45 ih45 =>
            intro y4_45 ly4_45 uy4_45 y5_45 ly5_45 uy5_45 y6_45 ly6_45 uy6_45 y7_45 ly7_45 uy7_45 L fw45 hs hE i1 u5 hn45 H locs ls hw hl
            refine lv_iload hx hb dX10_roomClash_45 (lv_at hl 7 rfl) ?_
            refine lv_aload_n hx hb dX10_roomClash_47 rfl (lv_at hl 0 rfl) ?_
            refine q_geti (ci := 8) (C := RX10) (T := TX10) (N := 26) hx hb hts (fun w h => List.mem_cons_of_mem _ (mfX100 w h)) hown hK hw hs.1 hs.2.1 rfl 5 (by decide) (hts _ (List.mem_cons_of_mem _ (mr19 _ (List.mem_of_getElem? (i := 1) rfl)))) (fun _ h => h) rfl dX10_roomClash_48 (fun x_5 lx_5 ux_5 ex_5 => ?_)
            refine q_icmp_ge (tgt := 176) hx hb dX10_roomClash_51 (by decide) ⟨ly7_45, uy7_45⟩ ⟨lx_5, ux_5⟩ (fun c51 => ?_) (fun c51 => ?_)
            · refine lv_iload_n hx hb dX10_roomClash_176 rfl (lv_at hl 3 rfl) ?_
              refine q_if_ne (tgt := 185) hx hb dX10_roomClash_177 (by decide) ⟨lx3, ux3⟩ (fun c177 => ?_) (fun c177 => ?_)
              · refine lv_iload_n hx hb dX10_roomClash_185 rfl (lv_at hl 3 rfl) ?_
                refine q_iconst hx hb dX10_roomClash_186 ?_
                refine q_icmp_ne (tgt := 195) hx hb dX10_roomClash_187 (by decide) ⟨lx3, ux3⟩ ⟨by decide, by decide⟩ (fun c187 => ?_) (fun c187 => ?_)
                · refine lv_iload hx hb dX10_roomClash_195 (lv_at hl 6 rfl) ?_
                  exact q_ret_i hx hb hr hlocks hK hAe hw ⟨ly6_45, uy6_45⟩ (Nat.le_of_ble_eq_true rfl) (Nat.le_of_ble_eq_true rfl) dX10_roomClash_197 (by exact ⟨rfl, hs, hE, by first | trivial | omega⟩)
                · refine lv_iload hx hb dX10_roomClash_190 (lv_at hl 5 rfl) ?_
                  refine lv_goto (tgt := 197) hx hb dX10_roomClash_192 (by decide) ?_
                  exact q_ret_i hx hb hr hlocks hK hAe hw ⟨ly5_45, uy5_45⟩ (Nat.le_of_ble_eq_true rfl) (Nat.le_of_ble_eq_true rfl) dX10_roomClash_197 (by exact ⟨rfl, hs, hE, by first | trivial | omega⟩)
              · refine lv_iload hx hb dX10_roomClash_180 (lv_at hl 4 rfl) ?_
                refine lv_goto (tgt := 197) hx hb dX10_roomClash_182 (by decide) ?_
                exact q_ret_i hx hb hr hlocks hK hAe hw ⟨ly4_45, uy4_45⟩ (Nat.le_of_ble_eq_true rfl) (Nat.le_of_ble_eq_true rfl) dX10_roomClash_197 (by exact ⟨rfl, hs, hE, by first | trivial | omega⟩)
            · refine lv_aload_n hx hb dX10_roomClash_54 rfl (lv_at hl 0 rfl) ?_
              refine lv_iload hx hb dX10_roomClash_55 (lv_at hl 7 rfl) ?_
              refine q_iconst hx hb dX10_roomClash_57 ?_
              refine q_call_i hA hK hw (va_runV (As := [.int (iI y7_45), .int (iI 0)]) (rest := []) ⟨hx, hb, hml, hown, hts⟩ (c_X10_get zo l D cy L0 fw45 a0 y7_45 ly7_45 uy7_45 0 (by decide) (by decide) ad hs (by omega) (by omega) (by omega) (by omega) _) (cwV 2 hts (gT (inV (mr25 _ (List.mem_of_getElem? (i := 0) rfl)) (mr25 _ (List.mem_of_getElem? (i := 1) rfl)) (mr25 _ (List.mem_of_getElem? (i := 2) rfl)) (mr1 _ (List.mem_of_getElem? (i := 5) rfl)) (mr25 _ (List.mem_of_getElem? (i := 3) rfl)))) rfl rfl rfl (by decide +kernel) ⟨Nat.le_of_ble_eq_true rfl, Nat.le_of_ble_eq_true rfl⟩) (Wd.preV zo hA hZ hw hK hs.1 hs.2.1 rfl) rfl rfl hl.1 rfl (lv_room (Nat.le_of_ble_eq_true rfl)) dX10_roomClash_58 ⟨Nat.le_of_ble_eq_true rfl, Nat.le_of_ble_eq_true rfl⟩) (fun x_6 L1 f1 H locs lx_6 ux_6 ex_6 hw => ?_)
              obtain ⟨rfl, rfl, ex_6⟩ := ex_6
              refine lv_iload_n hx hb dX10_roomClash_61 rfl (lv_at hl 1 rfl) ?_
              have J170 : ∀ (z4_170 : Int) (lz4_170 : -2147483648 ≤ z4_170) (uz4_170 : z4_170 ≤ 2147483647) (z5_170 : Int) (lz5_170 : -2147483648 ≤ z5_170) (uz5_170 : z5_170 ≤ 2147483647) (z6_170 : Int) (lz6_170 : -2147483648 ≤ z6_170) (uz6_170 : z6_170 ≤ 2147483647) (L : List Nat) (fw170 : Nat → va_E) (hs : MS cy L0 fw170 a0 ad) (hE : Kp a0 ad [11, 12, 13] [10] f0 fw170) (u5 : fI fw170 a0 5 = fI f0 a0 5) (H : Heap) (locs : List Loc) (ls : Array Slot) (hw : Wd D A s.heap L0 fw170 H locs) (hl : lv_has ls 10 [(0, .ref a0), (1, .int (iI x1)), (2, .int (iI x2)), (3, .int (iI x3)), (4, .int (iI z4_170)), (5, .int (iI z5_170)), (6, .int (iI z6_170)), (7, .int (iI y7_45))]), W p l e ({ frames := 4, cells := 0, slots := 0, locals := 103 } : Room) s m ([.ref a0, .int (iI x1), .int (iI x2), .int (iI x3)] : List Value).toArray below meth c H locs (0 + 0 + 0 + 0 + 0) (0 + 0 + 0 + 0 + 0) (MQ below (Qi D (tq cy) L0 f0 s.heap.size (fun (r : Int) (L1 : List Nat) (f1 : Nat → va_E) => L0 = L1 ∧ MS cy L0 f1 a0 ad ∧ Kp a0 ad [11, 12, 13] [10] f0 f1 ∧ (True))) ([.ref a0, .int (iI x1), .int (iI x2), .int (iI x3)] : List Value).toArray s 0 0 A) (F0 m 170 ls []) := by
                intro z4_170 lz4_170 uz4_170 z5_170 lz5_170 uz5_170 z6_170 lz6_170 uz6_170 L fw170 hs hE u5 H locs ls hw hl
                obtain ⟨x_7, lx_7, ux_7, hx_7, ex_7⟩ := q_inc y7_45 (1)
                try (replace ex_7 : x_7 = y7_45 + (1) := by omega)
                refine lv_iinc (v := iI x_7) (lv' := [(7, .int (iI x_7)), (0, .ref a0), (1, .int (iI x1)), (2, .int (iI x2)), (3, .int (iI x3)), (4, .int (iI z4_170)), (5, .int (iI z5_170)), (6, .int (iI z6_170))]) hx hb dX10_roomClash_170 hl (k := 7) rfl hx_7 (by decide) rfl (fun ls hl => ?_)
                refine lv_goto (tgt := 45) hx hb dX10_roomClash_173 (by decide) ?_
                exact ih45 z4_170 lz4_170 uz4_170 z5_170 lz5_170 uz5_170 z6_170 lz6_170 uz6_170 x_7 lx_7 ux_7 L0 fw170 hs hE (by omega) (by omega) (by omega) _ _ _ hw (lv_sub hl [1, 2, 3, 4, 5, 6, 7, 0] rfl)
              refine q_icmp_eq (tgt := 68) hx hb dX10_roomClash_62 (by decide) ⟨lx_6, ux_6⟩ ⟨lx1, ux1⟩ (fun c62 => ?_) (fun c62 => ?_)
              · refine lv_aload_n hx hb dX10_roomClash_68 rfl (lv_at hl 0 rfl) ?_
                refine lv_iload hx hb dX10_roomClash_69 (lv_at hl 7 rfl) ?_
                refine q_iconst hx hb dX10_roomClash_71 ?_
                refine q_call_v hA hK hw (va_runV (As := [.int (iI y7_45), .int (iI 0)]) (rest := []) ⟨hx, hb, hml, hown, hts⟩ (c_X10_laysTimes zo l D cy L0 fw45 a0 y7_45 ly7_45 uy7_45 0 (by decide) (by decide) ad hs (by first | exact hv | exact hv.kp hE (by decide) (by decide)) (by omega) (by omega) (by omega) (by omega) _) (cwV 2 hts (gT (inV (mr30 _ (List.mem_of_getElem? (i := 11) rfl)) (mr30 _ (List.mem_of_getElem? (i := 12) rfl)) (mr30 _ (List.mem_of_getElem? (i := 13) rfl)) (mr1 _ (List.mem_of_getElem? (i := 5) rfl)) (mr30 _ (List.mem_of_getElem? (i := 14) rfl)))) rfl rfl rfl (by decide +kernel) ⟨Nat.le_of_ble_eq_true rfl, Nat.le_of_ble_eq_true rfl⟩) (Wd.preV zo hA hZ hw hK hs.1 hs.2.1 rfl) rfl rfl hl.1 rfl (lv_room (Nat.le_of_ble_eq_true rfl)) dX10_roomClash_72 ⟨Nat.le_of_ble_eq_true rfl, Nat.le_of_ble_eq_true rfl⟩) (fun L1 f_9 H locs ex_8 hw => ?_)
                obtain ⟨rfl, hs, hX, ex_8⟩ := ex_8
                have hE := hE.trans (hX.mono (rs' := [11, 12, 13]) (fs' := [10]) (by decide) (by decide))
                have t5_f_9 : fI f_9 a0 5 = fI fw45 a0 5 := hX.2 5 (by decide)
                obtain ⟨a38, b38, -, -⟩ := ex_8
                refine lv_iload hx hb dX10_roomClash_75 (lv_at hl 7 rfl) ?_
                refine q_iconst hx hb dX10_roomClash_77 ?_
                first | refine q_iadd hx hb dX10_roomClash_78 ⟨by omega, by omega⟩ (fun x_10 lx_10 ux_10 ex_10 => ?_) | refine q_iaddw hx hb dX10_roomClash_78 (fun x_10 lx_10 ux_10 ex_10 => ?_)
                refine lv_istore (lv' := [(8, .int (iI x_10)), (0, .ref a0), (1, .int (iI x1)), (2, .int (iI x2)), (3, .int (iI x3)), (4, .int (iI y4_45)), (5, .int (iI y5_45)), (6, .int (iI y6_45)), (7, .int (iI y7_45))]) hx hb dX10_roomClash_79 hl (by decide) rfl (fun ls hl => ?_)
                have J81 : ∀ (n81 : Nat) (y4_81 : Int) (ly4_81 : -2147483648 ≤ y4_81) (uy4_81 : y4_81 ≤ 2147483647) (y5_81 : Int) (ly5_81 : -2147483648 ≤ y5_81) (uy5_81 : y5_81 ≤ 2147483647) (y6_81 : Int) (ly6_81 : -2147483648 ≤ y6_81) (uy6_81 : y6_81 ≤ 2147483647) (y8_81 : Int) (ly8_81 : -2147483648 ≤ y8_81) (uy8_81 : y8_81 ≤ 2147483647) (L : List Nat) (fw81 : Nat → va_E) (hs : MS cy L0 fw81 a0 ad) (hE : Kp a0 ad [11, 12, 13] [10] f0 fw81) (j1 : 0 ≤ y8_81) (u5 : fI fw81 a0 5 = fI f0 a0 5) (ra : 0 ≤ aI fw81 (ad 13) 0) (rb : aI fw81 (ad 13) 0 ≤ 36525) (hn81 : ((2147483647 : Int) - y8_81).toNat < n81) (H : Heap) (locs : List Loc) (ls : Array Slot) (hw : Wd D A s.heap L0 fw81 H locs) (hl : lv_has ls 10 [(0, .ref a0), (1, .int (iI x1)), (2, .int (iI x2)), (3, .int (iI x3)), (4, .int (iI y4_81)), (5, .int (iI y5_81)), (6, .int (iI y6_81)), (7, .int (iI y7_45)), (8, .int (iI y8_81))]), W p l e ({ frames := 4, cells := 0, slots := 0, locals := 103 } : Room) s m ([.ref a0, .int (iI x1), .int (iI x2), .int (iI x3)] : List Value).toArray below meth c H locs (0 + 0 + 0 + 0 + 0 + 0) (0 + 0 + 0 + 0 + 0 + 0) (MQ below (Qi D (tq cy) L0 f0 s.heap.size (fun (r : Int) (L1 : List Nat) (f1 : Nat → va_E) => L0 = L1 ∧ MS cy L0 f1 a0 ad ∧ Kp a0 ad [11, 12, 13] [10] f0 f1 ∧ (True))) ([.ref a0, .int (iI x1), .int (iI x2), .int (iI x3)] : List Value).toArray s 0 0 A) (F0 m 81 ls []) := by
                  intro n81
                  induction n81 with
                  | zero => intro y4_81 ly4_81 uy4_81 y5_81 ly5_81 uy5_81 y6_81 ly6_81 uy6_81 y8_81 ly8_81 uy8_81 L fw81 hs hE j1 u5 ra rb hn81; exact absurd hn81 (Nat.not_lt_zero _)
                  | succ n81 ih81 =>
                    intro y4_81 ly4_81 uy4_81 y5_81 ly5_81 uy5_81 y6_81 ly6_81 uy6_81 y8_81 ly8_81 uy8_81 L fw81 hs hE j1 u5 ra rb hn81 H locs ls hw hl
                    refine lv_iload hx hb dX10_roomClash_81 (lv_at hl 8 rfl) ?_
                    refine lv_aload_n hx hb dX10_roomClash_83 rfl (lv_at hl 0 rfl) ?_
                    refine q_geti (ci := 8) (C := RX10) (T := TX10) (N := 26) hx hb hts (fun w h => List.mem_cons_of_mem _ (mfX100 w h)) hown hK hw hs.1 hs.2.1 rfl 5 (by decide) (hts _ (List.mem_cons_of_mem _ (mr19 _ (List.mem_of_getElem? (i := 1) rfl)))) (fun _ h => h) rfl dX10_roomClash_84 (fun x_11 lx_11 ux_11 ex_11 => ?_)
                    refine q_icmp_ge (tgt := 170) hx hb dX10_roomClash_87 (by decide) ⟨ly8_81, uy8_81⟩ ⟨lx_11, ux_11⟩ (fun c87 => ?_) (fun c87 => ?_)
                    · exact J170 y4_81 ly4_81 uy4_81 y5_81 ly5_81 uy5_81 y6_81 ly6_81 uy6_81 L0 fw81 hs hE (by omega) _ _ _ hw (lv_sub hl [0, 1, 2, 3, 4, 5, 6, 7] rfl)
                    · refine lv_aload_n hx hb dX10_roomClash_90 rfl (lv_at hl 0 rfl) ?_
                      refine lv_iload hx hb dX10_roomClash_91 (lv_at hl 8 rfl) ?_
                      refine q_iconst hx hb dX10_roomClash_93 ?_
                      refine q_call_i hA hK hw (va_runV (As := [.int (iI y8_81), .int (iI 0)]) (rest := []) ⟨hx, hb, hml, hown, hts⟩ (c_X10_get zo l D cy L0 fw81 a0 y8_81 ly8_81 uy8_81 0 (by decide) (by decide) ad hs (by omega) (by omega) (by omega) (by omega) _) (cwV 2 hts (gT (inV (mr25 _ (List.mem_of_getElem? (i := 0) rfl)) (mr25 _ (List.mem_of_getElem? (i := 1) rfl)) (mr25 _ (List.mem_of_getElem? (i := 2) rfl)) (mr1 _ (List.mem_of_getElem? (i := 5) rfl)) (mr25 _ (List.mem_of_getElem? (i := 3) rfl)))) rfl rfl rfl (by decide +kernel) ⟨Nat.le_of_ble_eq_true rfl, Nat.le_of_ble_eq_true rfl⟩) (Wd.preV zo hA hZ hw hK hs.1 hs.2.1 rfl) rfl rfl hl.1 rfl (lv_room (Nat.le_of_ble_eq_true rfl)) dX10_roomClash_94 ⟨Nat.le_of_ble_eq_true rfl, Nat.le_of_ble_eq_true rfl⟩) (fun x_12 L1 f1 H locs lx_12 ux_12 ex_12 hw => ?_)
                      obtain ⟨rfl, rfl, ex_12⟩ := ex_12
                      refine lv_iload_n hx hb dX10_roomClash_97 rfl (lv_at hl 1 rfl) ?_
                      have J164 : ∀ (z4_164 : Int) (lz4_164 : -2147483648 ≤ z4_164) (uz4_164 : z4_164 ≤ 2147483647) (z5_164 : Int) (lz5_164 : -2147483648 ≤ z5_164) (uz5_164 : z5_164 ≤ 2147483647) (z6_164 : Int) (lz6_164 : -2147483648 ≤ z6_164) (uz6_164 : z6_164 ≤ 2147483647) (L : List Nat) (fw164 : Nat → va_E) (hs : MS cy L0 fw164 a0 ad) (hE : Kp a0 ad [11, 12, 13] [10] f0 fw164) (u5 : fI fw164 a0 5 = fI f0 a0 5) (ra : 0 ≤ aI fw164 (ad 13) 0) (rb : aI fw164 (ad 13) 0 ≤ 36525) (H : Heap) (locs : List Loc) (ls : Array Slot) (hw : Wd D A s.heap L0 fw164 H locs) (hl : lv_has ls 10 [(0, .ref a0), (1, .int (iI x1)), (2, .int (iI x2)), (3, .int (iI x3)), (4, .int (iI z4_164)), (5, .int (iI z5_164)), (6, .int (iI z6_164)), (7, .int (iI y7_45)), (8, .int (iI y8_81))]), W p l e ({ frames := 4, cells := 0, slots := 0, locals := 103 } : Room) s m ([.ref a0, .int (iI x1), .int (iI x2), .int (iI x3)] : List Value).toArray below meth c H locs (0 + 0 + 0 + 0 + 0 + 0 + 0) (0 + 0 + 0 + 0 + 0 + 0 + 0) (MQ below (Qi D (tq cy) L0 f0 s.heap.size (fun (r : Int) (L1 : List Nat) (f1 : Nat → va_E) => L0 = L1 ∧ MS cy L0 f1 a0 ad ∧ Kp a0 ad [11, 12, 13] [10] f0 f1 ∧ (True))) ([.ref a0, .int (iI x1), .int (iI x2), .int (iI x3)] : List Value).toArray s 0 0 A) (F0 m 164 ls []) := by
                        intro z4_164 lz4_164 uz4_164 z5_164 lz5_164 uz5_164 z6_164 lz6_164 uz6_164 L fw164 hs hE u5 ra rb H locs ls hw hl
                        obtain ⟨x_13, lx_13, ux_13, hx_13, ex_13⟩ := q_inc y8_81 (1)
                        try (replace ex_13 : x_13 = y8_81 + (1) := by omega)
                        refine lv_iinc (v := iI x_13) (lv' := [(8, .int (iI x_13)), (0, .ref a0), (1, .int (iI x1)), (2, .int (iI x2)), (3, .int (iI x3)), (4, .int (iI z4_164)), (5, .int (iI z5_164)), (6, .int (iI z6_164)), (7, .int (iI y7_45))]) hx hb dX10_roomClash_164 hl (k := 8) rfl hx_13 (by decide) rfl (fun ls hl => ?_)
                        refine lv_goto (tgt := 81) hx hb dX10_roomClash_167 (by decide) ?_
                        exact ih81 z4_164 lz4_164 uz4_164 z5_164 lz5_164 uz5_164 z6_164 lz6_164 uz6_164 x_13 lx_13 ux_13 L0 fw164 hs hE (by omega) (by omega) (by omega) (by omega) (by omega) _ _ _ hw (lv_sub hl [1, 2, 3, 4, 5, 6, 7, 8, 0] rfl)
                      refine q_icmp_eq (tgt := 104) hx hb dX10_roomClash_98 (by decide) ⟨lx_12, ux_12⟩ ⟨lx1, ux1⟩ (fun c98 => ?_) (fun c98 => ?_)
                      · refine lv_aload_n hx hb dX10_roomClash_104 rfl (lv_at hl 0 rfl) ?_
                        refine lv_iload hx hb dX10_roomClash_105 (lv_at hl 8 rfl) ?_
                        refine q_iconst hx hb dX10_roomClash_107 ?_
                        refine q_call_v hA hK hw (va_runV (As := [.int (iI y8_81), .int (iI 1)]) (rest := []) ⟨hx, hb, hml, hown, hts⟩ (c_X10_laysTimes zo l D cy L0 fw81 a0 y8_81 ly8_81 uy8_81 1 (by decide) (by decide) ad hs (by first | exact hv | exact hv.kp hE (by decide) (by decide)) (by omega) (by omega) (by omega) (by omega) _) (cwV 2 hts (gT (inV (mr30 _ (List.mem_of_getElem? (i := 11) rfl)) (mr30 _ (List.mem_of_getElem? (i := 12) rfl)) (mr30 _ (List.mem_of_getElem? (i := 13) rfl)) (mr1 _ (List.mem_of_getElem? (i := 5) rfl)) (mr30 _ (List.mem_of_getElem? (i := 14) rfl)))) rfl rfl rfl (by decide +kernel) ⟨Nat.le_of_ble_eq_true rfl, Nat.le_of_ble_eq_true rfl⟩) (Wd.preV zo hA hZ hw hK hs.1 hs.2.1 rfl) rfl rfl hl.1 rfl (lv_room (Nat.le_of_ble_eq_true rfl)) dX10_roomClash_108 ⟨Nat.le_of_ble_eq_true rfl, Nat.le_of_ble_eq_true rfl⟩) (fun L1 f_15 H locs ex_14 hw => ?_)
                        obtain ⟨rfl, hs, hX, ex_14⟩ := ex_14
                        have hE := hE.trans (hX.mono (rs' := [11, 12, 13]) (fs' := [10]) (by decide) (by decide))
                        have t5_f_15 : fI f_15 a0 5 = fI fw81 a0 5 := hX.2 5 (by decide)
                        obtain ⟨a44, b44, c44, -⟩ := ex_14
                        have d44 := c44 0 (by omega) (by omega)
                        refine lv_aload_n hx hb dX10_roomClash_111 rfl (lv_at hl 0 rfl) ?_
                        refine lv_aload_n hx hb dX10_roomClash_112 rfl (lv_at hl 0 rfl) ?_
                        refine lv_iload hx hb dX10_roomClash_113 (lv_at hl 7 rfl) ?_
                        refine q_iconst hx hb dX10_roomClash_115 ?_
                        refine q_call_i hA hK hw (va_runV (As := [.int (iI y7_45), .int (iI 2)]) (rest := [.ref a0]) ⟨hx, hb, hml, hown, hts⟩ (c_X10_get zo l D cy L0 f_15 a0 y7_45 ly7_45 uy7_45 2 (by decide) (by decide) ad hs (by omega) (by omega) (by omega) (by omega) _) (cwV 2 hts (gT (inV (mr25 _ (List.mem_of_getElem? (i := 0) rfl)) (mr25 _ (List.mem_of_getElem? (i := 1) rfl)) (mr25 _ (List.mem_of_getElem? (i := 2) rfl)) (mr1 _ (List.mem_of_getElem? (i := 5) rfl)) (mr25 _ (List.mem_of_getElem? (i := 3) rfl)))) rfl rfl rfl (by decide +kernel) ⟨Nat.le_of_ble_eq_true rfl, Nat.le_of_ble_eq_true rfl⟩) (Wd.preV zo hA hZ hw hK hs.1 hs.2.1 rfl) rfl rfl hl.1 rfl (lv_room (Nat.le_of_ble_eq_true rfl)) dX10_roomClash_116 ⟨Nat.le_of_ble_eq_true rfl, Nat.le_of_ble_eq_true rfl⟩) (fun x_16 L1 f1 H locs lx_16 ux_16 ex_16 hw => ?_)
                        obtain ⟨rfl, rfl, ex_16⟩ := ex_16
                        refine lv_aload_n hx hb dX10_roomClash_119 rfl (lv_at hl 0 rfl) ?_
                        refine lv_iload hx hb dX10_roomClash_120 (lv_at hl 8 rfl) ?_
                        refine q_iconst hx hb dX10_roomClash_122 ?_
                        refine q_call_i hA hK hw (va_runV (As := [.int (iI y8_81), .int (iI 2)]) (rest := [.int (iI x_16), .ref a0]) ⟨hx, hb, hml, hown, hts⟩ (c_X10_get zo l D cy L0 f_15 a0 y8_81 ly8_81 uy8_81 2 (by decide) (by decide) ad hs (by omega) (by omega) (by omega) (by omega) _) (cwV 2 hts (gT (inV (mr25 _ (List.mem_of_getElem? (i := 0) rfl)) (mr25 _ (List.mem_of_getElem? (i := 1) rfl)) (mr25 _ (List.mem_of_getElem? (i := 2) rfl)) (mr1 _ (List.mem_of_getElem? (i := 5) rfl)) (mr25 _ (List.mem_of_getElem? (i := 3) rfl)))) rfl rfl rfl (by decide +kernel) ⟨Nat.le_of_ble_eq_true rfl, Nat.le_of_ble_eq_true rfl⟩) (Wd.preV zo hA hZ hw hK hs.1 hs.2.1 rfl) rfl rfl hl.1 rfl (lv_room (Nat.le_of_ble_eq_true rfl)) dX10_roomClash_123 ⟨Nat.le_of_ble_eq_true rfl, Nat.le_of_ble_eq_true rfl⟩) (fun x_17 L1 f1 H locs lx_17 ux_17 ex_17 hw => ?_)
                        obtain ⟨rfl, rfl, ex_17⟩ := ex_17
                        refine lv_iload_n hx hb dX10_roomClash_126 rfl (lv_at hl 2 rfl) ?_
                        refine q_call_i hA hK hw (va_runV (As := [.int (iI x_16), .int (iI x_17), .int (iI x2)]) (rest := []) ⟨hx, hb, hml, hown, hts⟩ (c_X10_clashOf zo l D cy L0 f_15 a0 x_16 lx_16 ux_16 x_17 lx_17 ux_17 x2 lx2 ux2 ad hs (by omega) (by omega) (by omega) (by omega) _) (cwV 3 hts (gT (inV (mr37 _ (List.mem_of_getElem? (i := 11) rfl)) (mr37 _ (List.mem_of_getElem? (i := 12) rfl)) (mr37 _ (List.mem_of_getElem? (i := 13) rfl)) (mr1 _ (List.mem_of_getElem? (i := 5) rfl)) (mr37 _ (List.mem_of_getElem? (i := 14) rfl)))) rfl rfl rfl (by decide +kernel) ⟨Nat.le_of_ble_eq_true rfl, Nat.le_of_ble_eq_true rfl⟩) (Wd.preV zo hA hZ hw hK hs.1 hs.2.1 rfl) rfl rfl hl.1 rfl (lv_room (Nat.le_of_ble_eq_true rfl)) dX10_roomClash_127 ⟨Nat.le_of_ble_eq_true rfl, Nat.le_of_ble_eq_true rfl⟩) (fun x_18 L1 f1 H locs lx_18 ux_18 ex_18 hw => ?_)
                        obtain ⟨rfl, rfl, ex_18⟩ := ex_18
                        refine lv_istore (lv' := [(9, .int (iI x_18)), (0, .ref a0), (1, .int (iI x1)), (2, .int (iI x2)), (3, .int (iI x3)), (4, .int (iI y4_81)), (5, .int (iI y5_81)), (6, .int (iI y6_81)), (7, .int (iI y7_45)), (8, .int (iI y8_81))]) hx hb dX10_roomClash_130 hl (by decide) rfl (fun ls hl => ?_)
                        refine lv_iload hx hb dX10_roomClash_132 (lv_at hl 0 rfl) ?_
                        refine q_if_lt (tgt := 164) hx hb dX10_roomClash_134 (by decide) ⟨lx_18, ux_18⟩ (fun c134 => ?_) (fun c134 => ?_)
                        · exact J164 y4_81 ly4_81 uy4_81 y5_81 ly5_81 uy5_81 y6_81 ly6_81 uy6_81 L0 f_15 hs hE (by omega) (by omega) (by omega) _ _ _ hw (lv_sub hl [1, 2, 3, 4, 5, 6, 7, 8, 9] rfl)
                        · refine lv_iload hx hb dX10_roomClash_137 (lv_at hl 5 rfl) ?_
                          have J152 : ∀ (H : Heap) (locs : List Loc) (ls : Array Slot) (hw : Wd D A s.heap L0 f_15 H locs) (hl : lv_has ls 10 [(0, .ref a0), (1, .int (iI x1)), (2, .int (iI x2)), (3, .int (iI x3)), (7, .int (iI y7_45)), (8, .int (iI y8_81)), (9, .int (iI x_18))]), W p l e ({ frames := 4, cells := 0, slots := 0, locals := 103 } : Room) s m ([.ref a0, .int (iI x1), .int (iI x2), .int (iI x3)] : List Value).toArray below meth c H locs (0 + 0 + 0 + 0 + 0 + 0 + 0 + 0 + 0 + 0 + 0) (0 + 0 + 0 + 0 + 0 + 0 + 0 + 0 + 0 + 0 + 0) (MQ below (Qi D (tq cy) L0 f0 s.heap.size (fun (r : Int) (L1 : List Nat) (f1 : Nat → va_E) => L0 = L1 ∧ MS cy L0 f1 a0 ad ∧ Kp a0 ad [11, 12, 13] [10] f0 f1 ∧ (True))) ([.ref a0, .int (iI x1), .int (iI x2), .int (iI x3)] : List Value).toArray s 0 0 A) (F0 m 152 ls []) := by
                            intro H locs ls hw hl
                            refine lv_iload hx hb dX10_roomClash_152 (lv_at hl 6 rfl) ?_
                            refine lv_istore (lv' := [(4, .int (iI x_18)), (0, .ref a0), (1, .int (iI x1)), (2, .int (iI x2)), (3, .int (iI x3)), (7, .int (iI y7_45)), (8, .int (iI y8_81)), (9, .int (iI x_18))]) hx hb dX10_roomClash_154 hl (by decide) rfl (fun ls hl => ?_)
                            refine lv_iload hx hb dX10_roomClash_156 (lv_at hl 5 rfl) ?_
                            refine lv_istore (lv' := [(5, .int (iI y7_45)), (4, .int (iI x_18)), (0, .ref a0), (1, .int (iI x1)), (2, .int (iI x2)), (3, .int (iI x3)), (7, .int (iI y7_45)), (8, .int (iI y8_81)), (9, .int (iI x_18))]) hx hb dX10_roomClash_158 hl (by decide) rfl (fun ls hl => ?_)
                            refine lv_iload hx hb dX10_roomClash_160 (lv_at hl 7 rfl) ?_
                            refine lv_istore (lv' := [(6, .int (iI y8_81)), (5, .int (iI y7_45)), (4, .int (iI x_18)), (0, .ref a0), (1, .int (iI x1)), (2, .int (iI x2)), (3, .int (iI x3)), (7, .int (iI y7_45)), (8, .int (iI y8_81)), (9, .int (iI x_18))]) hx hb dX10_roomClash_162 hl (by decide) rfl (fun ls hl => ?_)
                            exact J164 x_18 lx_18 ux_18 y7_45 ly7_45 uy7_45 y8_81 ly8_81 uy8_81 L0 f_15 hs hE (by omega) (by omega) (by omega) _ _ _ hw (lv_sub hl [3, 4, 5, 6, 2, 1, 0, 7, 8] rfl)
                          refine q_if_lt (tgt := 152) hx hb dX10_roomClash_139 (by decide) ⟨ly4_81, uy4_81⟩ (fun c139 => ?_) (fun c139 => ?_)
                          · exact J152 _ _ _ hw (lv_sub hl [1, 2, 3, 4, 8, 9, 0] rfl)
                          · refine lv_iload hx hb dX10_roomClash_142 (lv_at hl 0 rfl) ?_
                            refine lv_iload hx hb dX10_roomClash_144 (lv_at hl 5 rfl) ?_
                            refine q_icmp_lt (tgt := 152) hx hb dX10_roomClash_146 (by decide) ⟨lx_18, ux_18⟩ ⟨ly4_81, uy4_81⟩ (fun c146 => ?_) (fun c146 => ?_)
                            · exact J152 _ _ _ hw (lv_sub hl [1, 2, 3, 4, 8, 9, 0] rfl)
                            · refine lv_goto (tgt := 164) hx hb dX10_roomClash_149 (by decide) ?_
                              exact J164 y4_81 ly4_81 uy4_81 y5_81 ly5_81 uy5_81 y6_81 ly6_81 uy6_81 L0 f_15 hs hE (by omega) (by omega) (by omega) _ _ _ hw (lv_sub hl [1, 2, 3, 4, 5, 6, 7, 8, 9] rfl)
                      · refine lv_goto (tgt := 164) hx hb dX10_roomClash_101 (by decide) ?_
                        exact J164 y4_81 ly4_81 uy4_81 y5_81 ly5_81 uy5_81 y6_81 ly6_81 uy6_81 L0 fw81 hs hE (by omega) (by omega) (by omega) _ _ _ hw (lv_sub hl [0, 1, 2, 3, 4, 5, 6, 7, 8] rfl)
                exact J81 ((((2147483647 : Int) - x_10).toNat) + 1) y4_45 ly4_45 uy4_45 y5_45 ly5_45 uy5_45 y6_45 ly6_45 uy6_45 x_10 lx_10 ux_10 L0 f_9 hs hE (by omega) (by omega) (by omega) (by omega) (by omega) _ _ _ hw (lv_sub hl [1, 2, 3, 4, 5, 6, 7, 8, 0] rfl)
              · refine lv_goto (tgt := 170) hx hb dX10_roomClash_65 (by decide) ?_
                exact J170 y4_45 ly4_45 uy4_45 y5_45 ly5_45 uy5_45 y6_45 ly6_45 uy6_45 L0 fw45 hs hE (by omega) _ _ _ hw (lv_sub hl [0, 1, 2, 3, 4, 5, 6, 7] rfl)
        exact J45 ((((2147483647 : Int) - 0).toNat) + 1) ((-1)) (by decide) (by decide) ((-1)) (by decide) (by decide) ((-1)) (by decide) (by decide) 0 (by decide) (by decide) L0 f_1 hs hE (by omega) (by omega) (by omega) _ _ _ hw (lv_sub hl [4, 5, 6, 7, 3, 2, 1, 0] rfl)
      · refine q_iconst hx hb dX10_roomClash_31 ?_
        exact q_ret_i hx hb hr hlocks hK hAe hw ⟨by decide, by decide⟩ (Nat.le_of_ble_eq_true rfl) (Nat.le_of_ble_eq_true rfl) dX10_roomClash_32 (by exact ⟨rfl, hs, hE, by first | trivial | omega⟩)
set_option maxHeartbeats 4000000 in
set_option maxRecDepth 100000 in
theorem c_X10_laysTaken {Z : Zt} (zo : Zok Z) (l : Launch) (D : va_G) (cy : Cy) (L0 : List Nat) (f0 : Nat → va_E) (a0 : Nat) (x1 : Int) (lx1 : -2147483648 ≤ x1) (ux1 : x1 ≤ 2147483647) (x2 : Int) (lx2 : -2147483648 ≤ x2) (ux2 : x2 ≤ 2147483647) (x3 : Int) (lx3 : -2147483648 ≤ x3) (ux3 : x3 ≤ 2147483647) (ad : Nat → Nat) (hs : MS cy L0 f0 a0 ad) (hv : MV f0 a0 ad) (h1 : x3 ≤ 90721) : Cv Z l yX10_laysTaken (Cond.code yX10_laysTaken cX10_laysTaken 9 none :: TB) ({ frames := 4, cells := 0, slots := 0, locals := 103 } : Room) 0 0 D (tq cy) [.ref a0, .int (iI x1), .int (iI x2), .int (iI x3)] L0 f0 (fun (L1 : List Nat) (f1 : Nat → va_E) => L0 = L1 ∧ MS cy L0 f1 a0 ad ∧ Kp a0 ad [11, 12, 13, 25] [] f0 f1 ∧ (True)) := by
  refine Cv.enter (cc := cX10_laysTaken) (n := 9) rfl (plainFor_of_name (by decide)) (Nat.le_of_ble_eq_true rfl) ?_
  intro p e s m below meth c ls A hx hb hr hts hown hlocks hnm hml hK hA hAe hw hZ hl
  have hown : s.vm.findClass RX10 = some m.cls := hown
  have hl : lv_has ls 9 [(0, .ref a0), (1, .int (iI x1)), (2, .int (iI x2)), (3, .int (iI x3))] := hl
  have hN : ZN s := (zo.2.2.2.2 _ _ _ hZ).2
  have hE : Kp a0 ad [11, 12, 13, 25] [] f0 f0 := Kp.refl _ _ _ _ _
  have m5 := hv.1
  have m6 := hv.2.1
  refine q_iconst hx hb dX10_laysTaken_0 ?_
  refine lv_istore (lv' := [(4, .int (iI 0)), (0, .ref a0), (1, .int (iI x1)), (2, .int (iI x2)), (3, .int (iI x3))]) hx hb dX10_laysTaken_1 hl (by decide) rfl (fun ls hl => ?_)
  have J3 : ∀ (n3 : Nat) (y4_3 : Int) (ly4_3 : -2147483648 ≤ y4_3) (uy4_3 : y4_3 ≤ 2147483647) (L : List Nat) (fw3 : Nat → va_E) (hs : MS cy L0 fw3 a0 ad) (hE : Kp a0 ad [11, 12, 13, 25] [] f0 fw3) (i1 : 0 ≤ y4_3) (u5 : fI fw3 a0 5 = fI f0 a0 5) (hn3 : ((2147483647 : Int) - y4_3).toNat < n3) (H : Heap) (locs : List Loc) (ls : Array Slot) (hw : Wd D A s.heap L0 fw3 H locs) (hl : lv_has ls 9 [(0, .ref a0), (1, .int (iI x1)), (2, .int (iI x2)), (3, .int (iI x3)), (4, .int (iI y4_3))]), W p l e ({ frames := 4, cells := 0, slots := 0, locals := 103 } : Room) s m ([.ref a0, .int (iI x1), .int (iI x2), .int (iI x3)] : List Value).toArray below meth c H locs (0) (0) (MQ below (Qv D (tq cy) L0 f0 s.heap.size (fun (L1 : List Nat) (f1 : Nat → va_E) => L0 = L1 ∧ MS cy L0 f1 a0 ad ∧ Kp a0 ad [11, 12, 13, 25] [] f0 f1 ∧ (True))) ([.ref a0, .int (iI x1), .int (iI x2), .int (iI x3)] : List Value).toArray s 0 0 A) (F0 m 3 ls []) := by
    intro n3
    induction n3 with
    | zero => intro y4_3 ly4_3 uy4_3 L fw3 hs hE i1 u5 hn3; exact absurd hn3 (Nat.not_lt_zero _)
    | succ n3 ih3 =>
      intro y4_3 ly4_3 uy4_3 L fw3 hs hE i1 u5 hn3 H locs ls hw hl
      refine lv_iload hx hb dX10_laysTaken_3 (lv_at hl 4 rfl) ?_
      refine lv_iload_n hx hb dX10_laysTaken_5 rfl (lv_at hl 3 rfl) ?_
      refine q_icmp_ge (tgt := 23) hx hb dX10_laysTaken_6 (by decide) ⟨ly4_3, uy4_3⟩ ⟨lx3, ux3⟩ (fun c6 => ?_) (fun c6 => ?_)
      · refine q_iconst hx hb dX10_laysTaken_23 ?_
        refine lv_istore (lv' := [(4, .int (iI 0)), (0, .ref a0), (1, .int (iI x1)), (2, .int (iI x2)), (3, .int (iI x3))]) hx hb dX10_laysTaken_24 hl (by decide) rfl (fun ls hl => ?_)
        have J26 : ∀ (n26 : Nat) (y4_26 : Int) (ly4_26 : -2147483648 ≤ y4_26) (uy4_26 : y4_26 ≤ 2147483647) (L : List Nat) (fw26 : Nat → va_E) (hs : MS cy L0 fw26 a0 ad) (hE : Kp a0 ad [11, 12, 13, 25] [] f0 fw26) (i1 : 0 ≤ y4_26) (u5 : fI fw26 a0 5 = fI f0 a0 5) (hn26 : ((2147483647 : Int) - y4_26).toNat < n26) (H : Heap) (locs : List Loc) (ls : Array Slot) (hw : Wd D A s.heap L0 fw26 H locs) (hl : lv_has ls 9 [(0, .ref a0), (1, .int (iI x1)), (2, .int (iI x2)), (3, .int (iI x3)), (4, .int (iI y4_26))]), W p l e ({ frames := 4, cells := 0, slots := 0, locals := 103 } : Room) s m ([.ref a0, .int (iI x1), .int (iI x2), .int (iI x3)] : List Value).toArray below meth c H locs (0) (0) (MQ below (Qv D (tq cy) L0 f0 s.heap.size (fun (L1 : List Nat) (f1 : Nat → va_E) => L0 = L1 ∧ MS cy L0 f1 a0 ad ∧ Kp a0 ad [11, 12, 13, 25] [] f0 f1 ∧ (True))) ([.ref a0, .int (iI x1), .int (iI x2), .int (iI x3)] : List Value).toArray s 0 0 A) (F0 m 26 ls []) := by
          intro n26
          induction n26 with
          | zero => intro y4_26 ly4_26 uy4_26 L fw26 hs hE i1 u5 hn26; exact absurd hn26 (Nat.not_lt_zero _)
          | succ n26 ih26 =>
            intro y4_26 ly4_26 uy4_26 L fw26 hs hE i1 u5 hn26 H locs ls hw hl
            refine lv_iload hx hb dX10_laysTaken_26 (lv_at hl 4 rfl) ?_
            refine lv_aload_n hx hb dX10_laysTaken_28 rfl (lv_at hl 0 rfl) ?_
            refine q_geti (ci := 8) (C := RX10) (T := TX10) (N := 26) hx hb hts (fun w h => List.mem_cons_of_mem _ (mfX100 w h)) hown hK hw hs.1 hs.2.1 rfl 5 (by decide) (hts _ (List.mem_cons_of_mem _ (mr19 _ (List.mem_of_getElem? (i := 1) rfl)))) (fun _ h => h) rfl dX10_laysTaken_29 (fun x_1 lx_1 ux_1 ex_1 => ?_)
            refine q_icmp_ge (tgt := 159) hx hb dX10_laysTaken_32 (by decide) ⟨ly4_26, uy4_26⟩ ⟨lx_1, ux_1⟩ (fun c32 => ?_) (fun c32 => ?_)
            · exact q_ret_v hx hb hr hlocks hK hAe hw (Nat.le_of_ble_eq_true rfl) (Nat.le_of_ble_eq_true rfl) dX10_laysTaken_159 (by exact ⟨rfl, hs, hE, by first | trivial | omega⟩)
            · refine lv_aload_n hx hb dX10_laysTaken_35 rfl (lv_at hl 0 rfl) ?_
              refine lv_iload hx hb dX10_laysTaken_36 (lv_at hl 4 rfl) ?_
              refine q_iconst hx hb dX10_laysTaken_38 ?_
              refine q_call_i hA hK hw (va_runV (As := [.int (iI y4_26), .int (iI 0)]) (rest := []) ⟨hx, hb, hml, hown, hts⟩ (c_X10_get zo l D cy L0 fw26 a0 y4_26 ly4_26 uy4_26 0 (by decide) (by decide) ad hs (by omega) (by omega) (by omega) (by omega) _) (cwV 2 hts (gT (inV (mr25 _ (List.mem_of_getElem? (i := 0) rfl)) (mr25 _ (List.mem_of_getElem? (i := 1) rfl)) (mr25 _ (List.mem_of_getElem? (i := 2) rfl)) (mr1 _ (List.mem_of_getElem? (i := 5) rfl)) (mr25 _ (List.mem_of_getElem? (i := 3) rfl)))) rfl rfl rfl (by decide +kernel) ⟨Nat.le_of_ble_eq_true rfl, Nat.le_of_ble_eq_true rfl⟩) (Wd.preV zo hA hZ hw hK hs.1 hs.2.1 rfl) rfl rfl hl.1 rfl (lv_room (Nat.le_of_ble_eq_true rfl)) dX10_laysTaken_39 ⟨Nat.le_of_ble_eq_true rfl, Nat.le_of_ble_eq_true rfl⟩) (fun x_2 L1 f1 H locs lx_2 ux_2 ex_2 hw => ?_)
              obtain ⟨rfl, rfl, ex_2⟩ := ex_2
              refine lv_iload_n hx hb dX10_laysTaken_42 rfl (lv_at hl 1 rfl) ?_
              have J153 : ∀ (L : List Nat) (fw153 : Nat → va_E) (hs : MS cy L0 fw153 a0 ad) (hE : Kp a0 ad [11, 12, 13, 25] [] f0 fw153) (u5 : fI fw153 a0 5 = fI f0 a0 5) (H : Heap) (locs : List Loc) (ls : Array Slot) (hw : Wd D A s.heap L0 fw153 H locs) (hl : lv_has ls 9 [(0, .ref a0), (1, .int (iI x1)), (2, .int (iI x2)), (3, .int (iI x3)), (4, .int (iI y4_26))]), W p l e ({ frames := 4, cells := 0, slots := 0, locals := 103 } : Room) s m ([.ref a0, .int (iI x1), .int (iI x2), .int (iI x3)] : List Value).toArray below meth c H locs (0 + 0) (0 + 0) (MQ below (Qv D (tq cy) L0 f0 s.heap.size (fun (L1 : List Nat) (f1 : Nat → va_E) => L0 = L1 ∧ MS cy L0 f1 a0 ad ∧ Kp a0 ad [11, 12, 13, 25] [] f0 f1 ∧ (True))) ([.ref a0, .int (iI x1), .int (iI x2), .int (iI x3)] : List Value).toArray s 0 0 A) (F0 m 153 ls []) := by
                intro L fw153 hs hE u5 H locs ls hw hl
                obtain ⟨x_3, lx_3, ux_3, hx_3, ex_3⟩ := q_inc y4_26 (1)
                try (replace ex_3 : x_3 = y4_26 + (1) := by omega)
                refine lv_iinc (v := iI x_3) (lv' := [(4, .int (iI x_3)), (0, .ref a0), (1, .int (iI x1)), (2, .int (iI x2)), (3, .int (iI x3))]) hx hb dX10_laysTaken_153 hl (k := 4) rfl hx_3 (by decide) rfl (fun ls hl => ?_)
                refine lv_goto (tgt := 26) hx hb dX10_laysTaken_156 (by decide) ?_
                exact ih26 x_3 lx_3 ux_3 L0 fw153 hs hE (by omega) (by omega) (by omega) _ _ _ hw (lv_sub hl [1, 2, 3, 4, 0] rfl)
              refine q_icmp_eq (tgt := 49) hx hb dX10_laysTaken_43 (by decide) ⟨lx_2, ux_2⟩ ⟨lx1, ux1⟩ (fun c43 => ?_) (fun c43 => ?_)
              · refine lv_aload_n hx hb dX10_laysTaken_49 rfl (lv_at hl 0 rfl) ?_
                refine lv_iload hx hb dX10_laysTaken_50 (lv_at hl 4 rfl) ?_
                refine q_iconst hx hb dX10_laysTaken_52 ?_
                refine q_call_v hA hK hw (va_runV (As := [.int (iI y4_26), .int (iI 0)]) (rest := []) ⟨hx, hb, hml, hown, hts⟩ (c_X10_laysTimes zo l D cy L0 fw26 a0 y4_26 ly4_26 uy4_26 0 (by decide) (by decide) ad hs (by first | exact hv | exact hv.kp hE (by decide) (by decide)) (by omega) (by omega) (by omega) (by omega) _) (cwV 2 hts (gT (inV (mr30 _ (List.mem_of_getElem? (i := 11) rfl)) (mr30 _ (List.mem_of_getElem? (i := 12) rfl)) (mr30 _ (List.mem_of_getElem? (i := 13) rfl)) (mr1 _ (List.mem_of_getElem? (i := 5) rfl)) (mr30 _ (List.mem_of_getElem? (i := 14) rfl)))) rfl rfl rfl (by decide +kernel) ⟨Nat.le_of_ble_eq_true rfl, Nat.le_of_ble_eq_true rfl⟩) (Wd.preV zo hA hZ hw hK hs.1 hs.2.1 rfl) rfl rfl hl.1 rfl (lv_room (Nat.le_of_ble_eq_true rfl)) dX10_laysTaken_53 ⟨Nat.le_of_ble_eq_true rfl, Nat.le_of_ble_eq_true rfl⟩) (fun L1 f_5 H locs ex_4 hw => ?_)
                obtain ⟨rfl, hs, hX, ex_4⟩ := ex_4
                have hE := hE.trans (hX.mono (rs' := [11, 12, 13, 25]) (fs' := []) (by decide) (by decide))
                have t5_f_5 : fI f_5 a0 5 = fI fw26 a0 5 := hX.2 5 (by decide)
                obtain ⟨a38, b38, -, -⟩ := ex_4
                refine q_iconst hx hb dX10_laysTaken_56 ?_
                refine lv_istore (lv' := [(5, .int (iI 0)), (0, .ref a0), (1, .int (iI x1)), (2, .int (iI x2)), (3, .int (iI x3)), (4, .int (iI y4_26))]) hx hb dX10_laysTaken_57 hl (by decide) rfl (fun ls hl => ?_)
                have J59 : ∀ (n59 : Nat) (y5_59 : Int) (ly5_59 : -2147483648 ≤ y5_59) (uy5_59 : y5_59 ≤ 2147483647) (L : List Nat) (fw59 : Nat → va_E) (hs : MS cy L0 fw59 a0 ad) (hE : Kp a0 ad [11, 12, 13, 25] [] f0 fw59) (j1 : 0 ≤ y5_59) (u5 : fI fw59 a0 5 = fI f0 a0 5) (ra : 0 ≤ aI fw59 (ad 13) 0) (rb : aI fw59 (ad 13) 0 ≤ 36525) (hn59 : ((2147483647 : Int) - y5_59).toNat < n59) (H : Heap) (locs : List Loc) (ls : Array Slot) (hw : Wd D A s.heap L0 fw59 H locs) (hl : lv_has ls 9 [(0, .ref a0), (1, .int (iI x1)), (2, .int (iI x2)), (3, .int (iI x3)), (4, .int (iI y4_26)), (5, .int (iI y5_59))]), W p l e ({ frames := 4, cells := 0, slots := 0, locals := 103 } : Room) s m ([.ref a0, .int (iI x1), .int (iI x2), .int (iI x3)] : List Value).toArray below meth c H locs (0 + 0 + 0) (0 + 0 + 0) (MQ below (Qv D (tq cy) L0 f0 s.heap.size (fun (L1 : List Nat) (f1 : Nat → va_E) => L0 = L1 ∧ MS cy L0 f1 a0 ad ∧ Kp a0 ad [11, 12, 13, 25] [] f0 f1 ∧ (True))) ([.ref a0, .int (iI x1), .int (iI x2), .int (iI x3)] : List Value).toArray s 0 0 A) (F0 m 59 ls []) := by
                  intro n59
                  induction n59 with
                  | zero => intro y5_59 ly5_59 uy5_59 L fw59 hs hE j1 u5 ra rb hn59; exact absurd hn59 (Nat.not_lt_zero _)
                  | succ n59 ih59 =>
                    intro y5_59 ly5_59 uy5_59 L fw59 hs hE j1 u5 ra rb hn59 H locs ls hw hl
                    refine lv_iload hx hb dX10_laysTaken_59 (lv_at hl 5 rfl) ?_
                    refine lv_aload_n hx hb dX10_laysTaken_61 rfl (lv_at hl 0 rfl) ?_
                    refine q_getr (ci := 8) (C := RX10) (T := TX10) (N := 26) hx hb hts (fun w h => List.mem_cons_of_mem _ (mfX100 w h)) hown hK hw hs.1 hs.2.1 rfl 13 (by decide) (hts _ (List.mem_cons_of_mem _ (mr3 _ (List.mem_of_getElem? (i := 21) rfl)))) (fun _ h => h) rfl (hs.2.2.1 13 rfl).1 dX10_laysTaken_62 ?_
                    refine q_iconst hx hb dX10_laysTaken_65 ?_
                    refine q_iald hx hb hK hw (hs.2.2.1 13 rfl).2.1 1 (hs.2.2.1 13 rfl).2.2 rfl ⟨by decide, by decide⟩ (by omega) (by show _ < ((2 : Nat) : Int); omega) dX10_laysTaken_66 (fun x_6 lx_6 ux_6 ex_6 => ?_)
                    refine q_icmp_ge (tgt := 153) hx hb dX10_laysTaken_67 (by decide) ⟨ly5_59, uy5_59⟩ ⟨lx_6, ux_6⟩ (fun c67 => ?_) (fun c67 => ?_)
                    · exact J153 L0 fw59 hs hE (by omega) _ _ _ hw (lv_sub hl [0, 1, 2, 3, 4] rfl)
                    · refine lv_aload_n hx hb dX10_laysTaken_70 rfl (lv_at hl 0 rfl) ?_
                      refine q_getr (ci := 8) (C := RX10) (T := TX10) (N := 26) hx hb hts (fun w h => List.mem_cons_of_mem _ (mfX100 w h)) hown hK hw hs.1 hs.2.1 rfl 11 (by decide) (hts _ (List.mem_cons_of_mem _ (mr3 _ (List.mem_of_getElem? (i := 19) rfl)))) (fun _ h => h) rfl (hs.2.2.1 11 rfl).1 dX10_laysTaken_71 ?_
                      refine lv_iload hx hb dX10_laysTaken_74 (lv_at hl 5 rfl) ?_
                      refine q_iald hx hb hK hw (hs.2.2.1 11 rfl).2.1 1 (hs.2.2.1 11 rfl).2.2 rfl ⟨ly5_59, uy5_59⟩ (by omega) (by show _ < ((73050 : Nat) : Int); omega) dX10_laysTaken_76 (fun x_7 lx_7 ux_7 ex_7 => ?_)
                      refine lv_iload_n hx hb dX10_laysTaken_77 rfl (lv_at hl 2 rfl) ?_
                      first | refine q_isub hx hb dX10_laysTaken_78 ⟨by omega, by omega⟩ (fun x_8 lx_8 ux_8 ex_8 => ?_) | refine q_isubw hx hb dX10_laysTaken_78 (fun x_8 lx_8 ux_8 ex_8 => ?_)
                      refine lv_istore (lv' := [(6, .int (iI x_8)), (0, .ref a0), (1, .int (iI x1)), (2, .int (iI x2)), (3, .int (iI x3)), (4, .int (iI y4_26)), (5, .int (iI y5_59))]) hx hb dX10_laysTaken_79 hl (by decide) rfl (fun ls hl => ?_)
                      refine lv_iload hx hb dX10_laysTaken_81 (lv_at hl 0 rfl) ?_
                      refine lv_aload_n hx hb dX10_laysTaken_83 rfl (lv_at hl 1 rfl) ?_
                      refine lv_iload hx hb dX10_laysTaken_84 (lv_at hl 5 rfl) ?_
                      refine q_iconst hx hb dX10_laysTaken_86 ?_
                      refine q_call_i hA hK hw (va_runV (As := [.int (iI y4_26), .int (iI 2)]) (rest := [.int (iI x_8)]) ⟨hx, hb, hml, hown, hts⟩ (c_X10_get zo l D cy L0 fw59 a0 y4_26 ly4_26 uy4_26 2 (by decide) (by decide) ad hs (by omega) (by omega) (by omega) (by omega) _) (cwV 2 hts (gT (inV (mr25 _ (List.mem_of_getElem? (i := 0) rfl)) (mr25 _ (List.mem_of_getElem? (i := 1) rfl)) (mr25 _ (List.mem_of_getElem? (i := 2) rfl)) (mr1 _ (List.mem_of_getElem? (i := 5) rfl)) (mr25 _ (List.mem_of_getElem? (i := 3) rfl)))) rfl rfl rfl (by decide +kernel) ⟨Nat.le_of_ble_eq_true rfl, Nat.le_of_ble_eq_true rfl⟩) (Wd.preV zo hA hZ hw hK hs.1 hs.2.1 rfl) rfl rfl hl.1 rfl (lv_room (Nat.le_of_ble_eq_true rfl)) dX10_laysTaken_87 ⟨Nat.le_of_ble_eq_true rfl, Nat.le_of_ble_eq_true rfl⟩) (fun x_9 L1 f1 H locs lx_9 ux_9 ex_9 hw => ?_)
                      obtain ⟨rfl, rfl, ex_9⟩ := ex_9
                      first | refine q_iadd hx hb dX10_laysTaken_90 ⟨by omega, by omega⟩ (fun x_10 lx_10 ux_10 ex_10 => ?_) | refine q_iaddw hx hb dX10_laysTaken_90 (fun x_10 lx_10 ux_10 ex_10 => ?_)
                      refine lv_istore (lv' := [(7, .int (iI x_10)), (6, .int (iI x_8)), (0, .ref a0), (1, .int (iI x1)), (2, .int (iI x2)), (3, .int (iI x3)), (4, .int (iI y4_26)), (5, .int (iI y5_59))]) hx hb dX10_laysTaken_91 hl (by decide) rfl (fun ls hl => ?_)
                      refine lv_iload hx hb dX10_laysTaken_93 (lv_at hl 1 rfl) ?_
                      refine lv_iload_n hx hb dX10_laysTaken_95 rfl (lv_at hl 5 rfl) ?_
                      have J147 : ∀ (L : List Nat) (fw147 : Nat → va_E) (hs : MS cy L0 fw147 a0 ad) (hE : Kp a0 ad [11, 12, 13, 25] [] f0 fw147) (u5 : fI fw147 a0 5 = fI f0 a0 5) (ra : 0 ≤ aI fw147 (ad 13) 0) (rb : aI fw147 (ad 13) 0 ≤ 36525) (H : Heap) (locs : List Loc) (ls : Array Slot) (hw : Wd D A s.heap L0 fw147 H locs) (hl : lv_has ls 9 [(0, .ref a0), (1, .int (iI x1)), (2, .int (iI x2)), (3, .int (iI x3)), (4, .int (iI y4_26)), (5, .int (iI y5_59))]), W p l e ({ frames := 4, cells := 0, slots := 0, locals := 103 } : Room) s m ([.ref a0, .int (iI x1), .int (iI x2), .int (iI x3)] : List Value).toArray below meth c H locs (0 + 0 + 0 + 0) (0 + 0 + 0 + 0) (MQ below (Qv D (tq cy) L0 f0 s.heap.size (fun (L1 : List Nat) (f1 : Nat → va_E) => L0 = L1 ∧ MS cy L0 f1 a0 ad ∧ Kp a0 ad [11, 12, 13, 25] [] f0 f1 ∧ (True))) ([.ref a0, .int (iI x1), .int (iI x2), .int (iI x3)] : List Value).toArray s 0 0 A) (F0 m 147 ls []) := by
                        intro L fw147 hs hE u5 ra rb H locs ls hw hl
                        obtain ⟨x_11, lx_11, ux_11, hx_11, ex_11⟩ := q_inc y5_59 (1)
                        try (replace ex_11 : x_11 = y5_59 + (1) := by omega)
                        refine lv_iinc (v := iI x_11) (lv' := [(5, .int (iI x_11)), (0, .ref a0), (1, .int (iI x1)), (2, .int (iI x2)), (3, .int (iI x3)), (4, .int (iI y4_26))]) hx hb dX10_laysTaken_147 hl (k := 5) rfl hx_11 (by decide) rfl (fun ls hl => ?_)
                        refine lv_goto (tgt := 59) hx hb dX10_laysTaken_150 (by decide) ?_
                        exact ih59 x_11 lx_11 ux_11 L0 fw147 hs hE (by omega) (by omega) (by omega) (by omega) (by omega) _ _ _ hw (lv_sub hl [1, 2, 3, 4, 5, 0] rfl)
                      refine q_icmp_ge (tgt := 147) hx hb dX10_laysTaken_96 (by decide) ⟨lx_8, ux_8⟩ ⟨lx3, ux3⟩ (fun c96 => ?_) (fun c96 => ?_)
                      · exact J147 L0 fw59 hs hE (by omega) (by omega) (by omega) _ _ _ hw (lv_sub hl [2, 3, 4, 5, 6, 7] rfl)
                      · refine lv_iload hx hb dX10_laysTaken_99 (lv_at hl 0 rfl) ?_
                        refine q_if_gt (tgt := 107) hx hb dX10_laysTaken_101 (by decide) ⟨lx_10, ux_10⟩ (fun c101 => ?_) (fun c101 => ?_)
                        · refine lv_iload hx hb dX10_laysTaken_107 (lv_at hl 1 rfl) ?_
                          have J118 : ∀ (w0_118 : Int) (lw0_118 : -2147483648 ≤ w0_118) (uw0_118 : w0_118 ≤ 2147483647) (k1 : 0 ≤ w0_118) (H : Heap) (locs : List Loc) (ls : Array Slot) (hw : Wd D A s.heap L0 fw59 H locs) (hl : lv_has ls 9 [(0, .ref a0), (1, .int (iI x1)), (2, .int (iI x2)), (3, .int (iI x3)), (4, .int (iI y4_26)), (5, .int (iI y5_59)), (7, .int (iI x_10))]), W p l e ({ frames := 4, cells := 0, slots := 0, locals := 103 } : Room) s m ([.ref a0, .int (iI x1), .int (iI x2), .int (iI x3)] : List Value).toArray below meth c H locs (0 + 0 + 0 + 0) (0 + 0 + 0 + 0) (MQ below (Qv D (tq cy) L0 f0 s.heap.size (fun (L1 : List Nat) (f1 : Nat → va_E) => L0 = L1 ∧ MS cy L0 f1 a0 ad ∧ Kp a0 ad [11, 12, 13, 25] [] f0 f1 ∧ (True))) ([.ref a0, .int (iI x1), .int (iI x2), .int (iI x3)] : List Value).toArray s 0 0 A) (F0 m 118 ls [.int (iI w0_118)]) := by
                            intro w0_118 lw0_118 uw0_118 k1 H locs ls hw hl
                            refine lv_istore (lv' := [(8, .int (iI w0_118)), (0, .ref a0), (1, .int (iI x1)), (2, .int (iI x2)), (3, .int (iI x3)), (4, .int (iI y4_26)), (5, .int (iI y5_59)), (7, .int (iI x_10))]) hx hb dX10_laysTaken_118 hl (by decide) rfl (fun ls hl => ?_)
                            have J120 : ∀ (n120 : Nat) (y8_120 : Int) (ly8_120 : -2147483648 ≤ y8_120) (uy8_120 : y8_120 ≤ 2147483647) (L : List Nat) (fw120 : Nat → va_E) (hs : MS cy L0 fw120 a0 ad) (hE : Kp a0 ad [11, 12, 13, 25] [] f0 fw120) (k1 : 0 ≤ y8_120) (u5 : fI fw120 a0 5 = fI f0 a0 5) (ra : 0 ≤ aI fw120 (ad 13) 0) (rb : aI fw120 (ad 13) 0 ≤ 36525) (hn120 : ((2147483647 : Int) - y8_120).toNat < n120) (H : Heap) (locs : List Loc) (ls : Array Slot) (hw : Wd D A s.heap L0 fw120 H locs) (hl : lv_has ls 9 [(0, .ref a0), (1, .int (iI x1)), (2, .int (iI x2)), (3, .int (iI x3)), (4, .int (iI y4_26)), (5, .int (iI y5_59)), (7, .int (iI x_10)), (8, .int (iI y8_120))]), W p l e ({ frames := 4, cells := 0, slots := 0, locals := 103 } : Room) s m ([.ref a0, .int (iI x1), .int (iI x2), .int (iI x3)] : List Value).toArray below meth c H locs (0 + 0 + 0 + 0) (0 + 0 + 0 + 0) (MQ below (Qv D (tq cy) L0 f0 s.heap.size (fun (L1 : List Nat) (f1 : Nat → va_E) => L0 = L1 ∧ MS cy L0 f1 a0 ad ∧ Kp a0 ad [11, 12, 13, 25] [] f0 f1 ∧ (True))) ([.ref a0, .int (iI x1), .int (iI x2), .int (iI x3)] : List Value).toArray s 0 0 A) (F0 m 120 ls []) := by
                              intro n120
                              induction n120 with
                              | zero => intro y8_120 ly8_120 uy8_120 L fw120 hs hE k1 u5 ra rb hn120; exact absurd hn120 (Nat.not_lt_zero _)
                              | succ n120 ih120 =>
                                intro y8_120 ly8_120 uy8_120 L fw120 hs hE k1 u5 ra rb hn120 H locs ls hw hl
                                refine lv_iload hx hb dX10_laysTaken_120 (lv_at hl 7 rfl) ?_
                                refine lv_iload hx hb dX10_laysTaken_122 (lv_at hl 6 rfl) ?_
                                refine q_icmp_ge (tgt := 147) hx hb dX10_laysTaken_124 (by decide) ⟨ly8_120, uy8_120⟩ ⟨lx_10, ux_10⟩ (fun c124 => ?_) (fun c124 => ?_)
                                · exact J147 L0 fw120 hs hE (by omega) (by omega) (by omega) _ _ _ hw (lv_sub hl [0, 1, 2, 3, 4, 5] rfl)
                                · refine lv_iload hx hb dX10_laysTaken_127 (lv_at hl 7 rfl) ?_
                                  refine lv_iload_n hx hb dX10_laysTaken_129 rfl (lv_at hl 3 rfl) ?_
                                  refine q_icmp_ge (tgt := 147) hx hb dX10_laysTaken_130 (by decide) ⟨ly8_120, uy8_120⟩ ⟨lx3, ux3⟩ (fun c130 => ?_) (fun c130 => ?_)
                                  · exact J147 L0 fw120 hs hE (by omega) (by omega) (by omega) _ _ _ hw (lv_sub hl [0, 1, 2, 3, 4, 5] rfl)
                                  · refine lv_aload_n hx hb dX10_laysTaken_133 rfl (lv_at hl 0 rfl) ?_
                                    refine q_getr (ci := 8) (C := RX10) (T := TX10) (N := 26) hx hb hts (fun w h => List.mem_cons_of_mem _ (mfX100 w h)) hown hK hw hs.1 hs.2.1 rfl 25 (by decide) (hts _ (List.mem_cons_of_mem _ (mr4 _ (List.mem_of_getElem? (i := 2) rfl)))) (fun _ h => h) rfl (hs.2.2.1 25 rfl).1 dX10_laysTaken_134 ?_
                                    refine lv_iload hx hb dX10_laysTaken_137 (lv_at hl 7 rfl) ?_
                                    refine q_iconst hx hb dX10_laysTaken_139 ?_
                                    refine q_zast hx hb hK hw (hs.2.2.1 25 rfl).2.1 2 (hs.2.2.1 25 rfl).2.2 rfl ⟨ly8_120, uy8_120⟩ (by omega) (by show _ < ((90721 : Nat) : Int); omega) dX10_laysTaken_140 (fun H locs hw => ?_)
                                    obtain ⟨f_12, ef_12⟩ : ∃ g : Nat → va_E, g = aU fw120 (ad 25) y8_120 (vp_nar .boolean (iI 1)) := ⟨_, rfl⟩
                                    have t5_f_12 : fI f_12 a0 5 = fI fw120 a0 5 := by rw [ef_12]; exact hs.fI_aU rfl _ _
                                    have hE := hE.trans (show Kp a0 ad [11, 12, 13, 25] [] fw120 f_12 by rw [ef_12]; exact Kp_aU hs rfl (by decide))
                                    have hs_ := hs
                                    have hs : MS cy L0 f_12 a0 ad := by rw [ef_12]; exact MS_aU hs rfl
                                    rw [← ef_12] at hw
                                    have c13_0_f_12 : aI f_12 (ad 13) 0 = aI fw120 (ad 13) 0 := by rw [ef_12]; exact hs_.aI_ne rfl rfl (by decide) _
                                    obtain ⟨x_13, lx_13, ux_13, hx_13, ex_13⟩ := q_inc y8_120 (1)
                                    try (replace ex_13 : x_13 = y8_120 + (1) := by omega)
                                    refine lv_iinc (v := iI x_13) (lv' := [(8, .int (iI x_13)), (0, .ref a0), (1, .int (iI x1)), (2, .int (iI x2)), (3, .int (iI x3)), (4, .int (iI y4_26)), (5, .int (iI y5_59)), (7, .int (iI x_10))]) hx hb dX10_laysTaken_141 hl (k := 7) rfl hx_13 (by decide) rfl (fun ls hl => ?_)
                                    refine lv_goto (tgt := 120) hx hb dX10_laysTaken_144 (by decide) ?_
                                    exact ih120 x_13 lx_13 ux_13 L0 f_12 hs hE (by omega) (by omega) (by omega) (by omega) (by omega) _ _ _ hw (lv_sub hl [1, 2, 3, 4, 5, 6, 7, 0] rfl)
                            exact J120 ((((2147483647 : Int) - w0_118).toNat) + 1) w0_118 lw0_118 uw0_118 L0 fw59 hs hE (by omega) (by omega) (by omega) (by omega) (by omega) _ _ _ hw (lv_sub hl [1, 2, 3, 4, 5, 6, 7, 0] rfl)
                          refine q_if_ge (tgt := 116) hx hb dX10_laysTaken_109 (by decide) ⟨lx_8, ux_8⟩ (fun c109 => ?_) (fun c109 => ?_)
                          · refine lv_iload hx hb dX10_laysTaken_116 (lv_at hl 1 rfl) ?_
                            exact J118 x_8 lx_8 ux_8 (by omega) _ _ _ hw (lv_sub hl [2, 3, 4, 5, 6, 7, 0] rfl)
                          · refine q_iconst hx hb dX10_laysTaken_112 ?_
                            refine lv_goto (tgt := 118) hx hb dX10_laysTaken_113 (by decide) ?_
                            exact J118 0 (by decide) (by decide) (by omega) _ _ _ hw (lv_sub hl [2, 3, 4, 5, 6, 7, 0] rfl)
                        · refine lv_goto (tgt := 147) hx hb dX10_laysTaken_104 (by decide) ?_
                          exact J147 L0 fw59 hs hE (by omega) (by omega) (by omega) _ _ _ hw (lv_sub hl [2, 3, 4, 5, 6, 7] rfl)
                exact J59 ((((2147483647 : Int) - 0).toNat) + 1) 0 (by decide) (by decide) L0 f_5 hs hE (by omega) (by omega) (by omega) (by omega) (by omega) _ _ _ hw (lv_sub hl [1, 2, 3, 4, 5, 0] rfl)
              · refine lv_goto (tgt := 153) hx hb dX10_laysTaken_46 (by decide) ?_
                exact J153 L0 fw26 hs hE (by omega) _ _ _ hw (lv_sub hl [0, 1, 2, 3, 4] rfl)
        exact J26 ((((2147483647 : Int) - 0).toNat) + 1) 0 (by decide) (by decide) L0 fw3 hs hE (by omega) (by omega) (by omega) _ _ _ hw (lv_sub hl [1, 2, 3, 4, 0] rfl)
      · refine lv_aload_n hx hb dX10_laysTaken_9 rfl (lv_at hl 0 rfl) ?_
        refine q_getr (ci := 8) (C := RX10) (T := TX10) (N := 26) hx hb hts (fun w h => List.mem_cons_of_mem _ (mfX100 w h)) hown hK hw hs.1 hs.2.1 rfl 25 (by decide) (hts _ (List.mem_cons_of_mem _ (mr4 _ (List.mem_of_getElem? (i := 2) rfl)))) (fun _ h => h) rfl (hs.2.2.1 25 rfl).1 dX10_laysTaken_10 ?_
        refine lv_iload hx hb dX10_laysTaken_13 (lv_at hl 4 rfl) ?_
        refine q_iconst hx hb dX10_laysTaken_15 ?_
        refine q_zast hx hb hK hw (hs.2.2.1 25 rfl).2.1 2 (hs.2.2.1 25 rfl).2.2 rfl ⟨ly4_3, uy4_3⟩ (by omega) (by show _ < ((90721 : Nat) : Int); omega) dX10_laysTaken_16 (fun H locs hw => ?_)
        obtain ⟨f_14, ef_14⟩ : ∃ g : Nat → va_E, g = aU fw3 (ad 25) y4_3 (vp_nar .boolean (iI 0)) := ⟨_, rfl⟩
        have t5_f_14 : fI f_14 a0 5 = fI fw3 a0 5 := by rw [ef_14]; exact hs.fI_aU rfl _ _
        have hE := hE.trans (show Kp a0 ad [11, 12, 13, 25] [] fw3 f_14 by rw [ef_14]; exact Kp_aU hs rfl (by decide))
        have hs_ := hs
        have hs : MS cy L0 f_14 a0 ad := by rw [ef_14]; exact MS_aU hs rfl
        rw [← ef_14] at hw
        have c13_0_f_14 : aI f_14 (ad 13) 0 = aI fw3 (ad 13) 0 := by rw [ef_14]; exact hs_.aI_ne rfl rfl (by decide) _
        obtain ⟨x_15, lx_15, ux_15, hx_15, ex_15⟩ := q_inc y4_3 (1)
        try (replace ex_15 : x_15 = y4_3 + (1) := by omega)
        refine lv_iinc (v := iI x_15) (lv' := [(4, .int (iI x_15)), (0, .ref a0), (1, .int (iI x1)), (2, .int (iI x2)), (3, .int (iI x3))]) hx hb dX10_laysTaken_17 hl (k := 4) rfl hx_15 (by decide) rfl (fun ls hl => ?_)
        refine lv_goto (tgt := 3) hx hb dX10_laysTaken_20 (by decide) ?_
        exact ih3 x_15 lx_15 ux_15 L0 f_14 hs hE (by omega) (by omega) (by omega) _ _ _ hw (lv_sub hl [1, 2, 3, 4, 0] rfl)
  exact J3 ((((2147483647 : Int) - 0).toNat) + 1) 0 (by decide) (by decide) L0 f0 hs hE (by omega) (by omega) (by omega) _ _ _ hw (lv_sub hl [1, 2, 3, 4, 0] rfl)
set_option maxHeartbeats 4000000 in
set_option maxRecDepth 100000 in
theorem c_X10_free {Z : Zt} (zo : Zok Z) (l : Launch) (D : va_G) (cy : Cy) (L0 : List Nat) (f0 : Nat → va_E) (a0 : Nat) (x1 : Int) (lx1 : -2147483648 ≤ x1) (ux1 : x1 ≤ 2147483647) (x2 : Int) (lx2 : -2147483648 ≤ x2) (ux2 : x2 ≤ 2147483647) (x3 : Int) (lx3 : -2147483648 ≤ x3) (ux3 : x3 ≤ 2147483647) (ad : Nat → Nat) (hs : MS cy L0 f0 a0 ad) (hv : MV f0 a0 ad) : Ci Z l yX10_free (Cond.code yX10_free cX10_free 6 (some .int) :: TB) ({ frames := 5, cells := 0, slots := 0, locals := 131 } : Room) 0 0 D (tq cy) [.ref a0, .int (iI x1), .int (iI x2), .int (iI x3)] L0 f0 (fun (r : Int) (L1 : List Nat) (f1 : Nat → va_E) => L0 = L1 ∧ MS cy L0 f1 a0 ad ∧ Kp a0 ad [11, 12, 13, 25] [10] f0 f1 ∧ (True)) := by
  refine Ci.enter (cc := cX10_free) (n := 6) rfl (plainFor_of_name (by decide)) (Nat.le_of_ble_eq_true rfl) ?_
  intro p e s m below meth c ls A hx hb hr hts hown hlocks hnm hml hK hA hAe hw hZ hl
  have hown : s.vm.findClass RX10 = some m.cls := hown
  have hl : lv_has ls 6 [(0, .ref a0), (1, .int (iI x1)), (2, .int (iI x2)), (3, .int (iI x3))] := hl
  have hN : ZN s := (zo.2.2.2.2 _ _ _ hZ).2
  have hE : Kp a0 ad [11, 12, 13, 25] [10] f0 f0 := Kp.refl _ _ _ _ _
  have m5 := hv.1
  have m6 := hv.2.1
  refine lv_aload_n hx hb dX10_free_0 rfl (lv_at hl 0 rfl) ?_
  refine q_iconst hx hb dX10_free_1 ?_
  refine q_puti (ci := 8) (C := RX10) (T := TX10) (N := 26) hx hb hts (fun w h => List.mem_cons_of_mem _ (mfX100 w h)) hown hK hw hs.1 hs.2.1 rfl 10 (by decide) (hts _ (List.mem_cons_of_mem _ (mr4 _ (List.mem_of_getElem? (i := 19) rfl)))) (fun _ h => h) tyX10 tyX10_ok nmX10 rfl (ty := .int) (by decide +kernel) rfl rfl dX10_free_2 (fun H locs hw => ?_)
  obtain ⟨f_1, ef_1⟩ : ∃ g : Nat → va_E, g = pU f0 a0 10 (.int (iI 0)) := ⟨_, rfl⟩
  have v10_f_1 : fI f_1 a0 10 = 0 := by rw [ef_1]; exact fI_pU_self hs.2.1 rfl ⟨by decide, by decide⟩
  have t5_f_1 : fI f_1 a0 5 = fI f0 a0 5 := by rw [ef_1]; exact fI_pU (Or.inr (by decide))
  have hE := hE.trans (show Kp a0 ad [11, 12, 13, 25] [10] f0 f_1 by rw [ef_1]; exact Kp_pU hs (by decide))
  have hs : MS cy L0 f_1 a0 ad := by rw [ef_1]; exact MS_pU hs rfl
  rw [← ef_1] at hw
  refine lv_iload_n hx hb dX10_free_5 rfl (lv_at hl 1 rfl) ?_
  refine q_iconst hx hb dX10_free_6 ?_
  refine q_bipush hx hb dX10_free_7 rfl ?_
  refine q_call_i hA hK hw (va_runS (As := [.int (iI x1), .int (iI 0), .int (iI 7)]) (rest := []) ⟨hx, hb, hml, hown, hts⟩ (c_X10_within zo l D cy L0 f_1 x1 lx1 ux1 0 (by decide) (by decide) 7 (by decide) (by decide) _) (va_cwS 3 hts (gT (inS (mr5 _ (List.mem_of_getElem? (i := 9) rfl)) (mr5 _ (List.mem_of_getElem? (i := 10) rfl)) (mr1 _ (List.mem_of_getElem? (i := 5) rfl)) (mr5 _ (List.mem_of_getElem? (i := 11) rfl)))) rfl rfl rfl (by decide +kernel) ⟨Nat.le_of_ble_eq_true rfl, Nat.le_of_ble_eq_true rfl⟩) (Wd.preS zo hA hZ hw hK) rfl rfl hl.1 rfl (lv_room (Nat.le_of_ble_eq_true rfl)) dX10_free_9 ⟨Nat.le_of_ble_eq_true rfl, Nat.le_of_ble_eq_true rfl⟩) (fun x_2 L1 f1 H locs lx_2 ux_2 ex_2 hw => ?_)
  obtain ⟨rfl, rfl, ex_2⟩ := ex_2
  refine q_if_eq (tgt := 33) hx hb dX10_free_12 (by decide) ⟨lx_2, ux_2⟩ (fun c12 => ?_) (fun c12 => ?_)
  · refine q_iconst hx hb dX10_free_33 ?_
    exact q_ret_i hx hb hr hlocks hK hAe hw ⟨by decide, by decide⟩ (Nat.le_of_ble_eq_true rfl) (Nat.le_of_ble_eq_true rfl) dX10_free_34 (by exact ⟨rfl, hs, hE, by first | trivial | omega⟩)
  · refine lv_iload_n hx hb dX10_free_15 rfl (lv_at hl 2 rfl) ?_
    refine q_call_i hA hK hw (va_runS (As := [.int (iI x2)]) (rest := []) ⟨hx, hb, hml, hown, hts⟩ (c_X10_isTime zo l D cy L0 f_1 x2 lx2 ux2 _) (va_cwS 1 hts (gT (inS (mr28 _ (List.mem_of_getElem? (i := 3) rfl)) (mr28 _ (List.mem_of_getElem? (i := 4) rfl)) (mr1 _ (List.mem_of_getElem? (i := 5) rfl)) (mr28 _ (List.mem_of_getElem? (i := 5) rfl)))) rfl rfl rfl (by decide +kernel) ⟨Nat.le_of_ble_eq_true rfl, Nat.le_of_ble_eq_true rfl⟩) (Wd.preS zo hA hZ hw hK) rfl rfl hl.1 rfl (lv_room (Nat.le_of_ble_eq_true rfl)) dX10_free_16 ⟨Nat.le_of_ble_eq_true rfl, Nat.le_of_ble_eq_true rfl⟩) (fun x_3 L1 f1 H locs lx_3 ux_3 ex_3 hw => ?_)
    obtain ⟨rfl, rfl, ex_3⟩ := ex_3
    refine q_if_eq (tgt := 33) hx hb dX10_free_19 (by decide) ⟨lx_3, ux_3⟩ (fun c19 => ?_) (fun c19 => ?_)
    · refine q_iconst hx hb dX10_free_33 ?_
      exact q_ret_i hx hb hr hlocks hK hAe hw ⟨by decide, by decide⟩ (Nat.le_of_ble_eq_true rfl) (Nat.le_of_ble_eq_true rfl) dX10_free_34 (by exact ⟨rfl, hs, hE, by first | trivial | omega⟩)
    · refine lv_iload_n hx hb dX10_free_22 rfl (lv_at hl 3 rfl) ?_
      refine q_iconst hx hb dX10_free_23 ?_
      refine q_sipush hx hb dX10_free_24 rfl ?_
      refine q_call_i hA hK hw (va_runS (As := [.int (iI x3), .int (iI 1), .int (iI 4320)]) (rest := []) ⟨hx, hb, hml, hown, hts⟩ (c_X10_within zo l D cy L0 f_1 x3 lx3 ux3 1 (by decide) (by decide) 4320 (by decide) (by decide) _) (va_cwS 3 hts (gT (inS (mr5 _ (List.mem_of_getElem? (i := 9) rfl)) (mr5 _ (List.mem_of_getElem? (i := 10) rfl)) (mr1 _ (List.mem_of_getElem? (i := 5) rfl)) (mr5 _ (List.mem_of_getElem? (i := 11) rfl)))) rfl rfl rfl (by decide +kernel) ⟨Nat.le_of_ble_eq_true rfl, Nat.le_of_ble_eq_true rfl⟩) (Wd.preS zo hA hZ hw hK) rfl rfl hl.1 rfl (lv_room (Nat.le_of_ble_eq_true rfl)) dX10_free_27 ⟨Nat.le_of_ble_eq_true rfl, Nat.le_of_ble_eq_true rfl⟩) (fun x_4 L1 f1 H locs lx_4 ux_4 ex_4 hw => ?_)
      obtain ⟨rfl, rfl, ex_4⟩ := ex_4
      refine q_if_ne (tgt := 35) hx hb dX10_free_30 (by decide) ⟨lx_4, ux_4⟩ (fun c30 => ?_) (fun c30 => ?_)
      · refine lv_aload_n hx hb dX10_free_35 rfl (lv_at hl 0 rfl) ?_
        refine lv_iload_n hx hb dX10_free_36 rfl (lv_at hl 1 rfl) ?_
        refine lv_iload_n hx hb dX10_free_37 rfl (lv_at hl 2 rfl) ?_
        refine q_ldcw (n := 90720) hx hb hown (hts _ (List.mem_cons_of_mem _ (mr38 _ (List.mem_of_getElem? (i := 22) rfl)))) rfl dX10_free_38 ?_
        refine q_call_v hA hK hw (va_runV (As := [.int (iI x1), .int (iI x2), .int (iI 90720)]) (rest := []) ⟨hx, hb, hml, hown, hts⟩ (c_X10_laysTaken zo l D cy L0 f_1 a0 x1 lx1 ux1 x2 lx2 ux2 90720 (by decide) (by decide) ad hs (by first | exact hv | exact hv.kp hE (by decide) (by decide)) (by omega) _) (cwV 3 hts (gT (inV (mr38 _ (List.mem_of_getElem? (i := 23) rfl)) (mr39 _ (List.mem_of_getElem? (i := 0) rfl)) (mr39 _ (List.mem_of_getElem? (i := 1) rfl)) (mr1 _ (List.mem_of_getElem? (i := 5) rfl)) (mr39 _ (List.mem_of_getElem? (i := 2) rfl)))) rfl rfl rfl (by decide +kernel) ⟨Nat.le_of_ble_eq_true rfl, Nat.le_of_ble_eq_true rfl⟩) (Wd.preV zo hA hZ hw hK hs.1 hs.2.1 rfl) rfl rfl hl.1 rfl (lv_room (Nat.le_of_ble_eq_true rfl)) dX10_free_41 ⟨Nat.le_of_ble_eq_true rfl, Nat.le_of_ble_eq_true rfl⟩) (fun L1 f_6 H locs ex_5 hw => ?_)
        obtain ⟨rfl, hs, hX, ex_5⟩ := ex_5
        have hE := hE.trans (hX.mono (rs' := [11, 12, 13, 25]) (fs' := [10]) (by decide) (by decide))
        have t5_f_6 : fI f_6 a0 5 = fI f_1 a0 5 := hX.2 5 (by decide)
        refine q_iconst hx hb dX10_free_44 ?_
        refine lv_istore (lv' := [(4, .int (iI 0)), (0, .ref a0), (1, .int (iI x1)), (2, .int (iI x2)), (3, .int (iI x3))]) hx hb dX10_free_45 hl (by decide) rfl (fun ls hl => ?_)
        refine q_iconst hx hb dX10_free_47 ?_
        refine lv_istore (lv' := [(5, .int (iI 0)), (4, .int (iI 0)), (0, .ref a0), (1, .int (iI x1)), (2, .int (iI x2)), (3, .int (iI x3))]) hx hb dX10_free_48 hl (by decide) rfl (fun ls hl => ?_)
        have J50 : ∀ (n50 : Nat) (y4_50 : Int) (ly4_50 : -2147483648 ≤ y4_50) (uy4_50 : y4_50 ≤ 2147483647) (y5_50 : Int) (ly5_50 : -2147483648 ≤ y5_50) (uy5_50 : y5_50 ≤ 2147483647) (i1 : 0 ≤ y5_50) (hn50 : ((2147483647 : Int) - y5_50).toNat < n50) (H : Heap) (locs : List Loc) (ls : Array Slot) (hw : Wd D A s.heap L0 f_6 H locs) (hl : lv_has ls 6 [(0, .ref a0), (2, .int (iI x2)), (3, .int (iI x3)), (4, .int (iI y4_50)), (5, .int (iI y5_50))]), W p l e ({ frames := 5, cells := 0, slots := 0, locals := 131 } : Room) s m ([.ref a0, .int (iI x1), .int (iI x2), .int (iI x3)] : List Value).toArray below meth c H locs (0 + 0 + 0 + 0 + 0) (0 + 0 + 0 + 0 + 0) (MQ below (Qi D (tq cy) L0 f0 s.heap.size (fun (r : Int) (L1 : List Nat) (f1 : Nat → va_E) => L0 = L1 ∧ MS cy L0 f1 a0 ad ∧ Kp a0 ad [11, 12, 13, 25] [10] f0 f1 ∧ (True))) ([.ref a0, .int (iI x1), .int (iI x2), .int (iI x3)] : List Value).toArray s 0 0 A) (F0 m 50 ls []) := by
          intro n50
          induction n50 with
          | zero => intro y4_50 ly4_50 uy4_50 y5_50 ly5_50 uy5_50 i1 hn50; exact absurd hn50 (Nat.not_lt_zero _)
          | succ n50 ih50 =>
            intro y4_50 ly4_50 uy4_50 y5_50 ly5_50 uy5_50 i1 hn50 H locs ls hw hl
            refine lv_iload hx hb dX10_free_50 (lv_at hl 4 rfl) ?_
            refine q_ldcw (n := 86400) hx hb hown (hts _ (List.mem_cons_of_mem _ (mr33 _ (List.mem_of_getElem? (i := 3) rfl)))) rfl dX10_free_52 ?_
            refine lv_iload_n hx hb dX10_free_55 rfl (lv_at hl 2 rfl) ?_
            first | refine q_iadd hx hb dX10_free_56 ⟨by omega, by omega⟩ (fun x_7 lx_7 ux_7 ex_7 => ?_) | refine q_iaddw hx hb dX10_free_56 (fun x_7 lx_7 ux_7 ex_7 => ?_)
            refine q_icmp_ge (tgt := 119) hx hb dX10_free_57 (by decide) ⟨ly5_50, uy5_50⟩ ⟨lx_7, ux_7⟩ (fun c57 => ?_) (fun c57 => ?_)
            · refine q_iconst hx hb dX10_free_119 ?_
              exact q_ret_i hx hb hr hlocks hK hAe hw ⟨by decide, by decide⟩ (Nat.le_of_ble_eq_true rfl) (Nat.le_of_ble_eq_true rfl) dX10_free_120 (by exact ⟨rfl, hs, hE, by first | trivial | omega⟩)
            · refine lv_aload_n hx hb dX10_free_60 rfl (lv_at hl 0 rfl) ?_
              refine q_getr (ci := 8) (C := RX10) (T := TX10) (N := 26) hx hb hts (fun w h => List.mem_cons_of_mem _ (mfX100 w h)) hown hK hw hs.1 hs.2.1 rfl 25 (by decide) (hts _ (List.mem_cons_of_mem _ (mr4 _ (List.mem_of_getElem? (i := 2) rfl)))) (fun _ h => h) rfl (hs.2.2.1 25 rfl).1 dX10_free_61 ?_
              refine lv_iload hx hb dX10_free_64 (lv_at hl 4 rfl) ?_
              refine q_zald hx hb hK hw (hs.2.2.1 25 rfl).2.1 2 (hs.2.2.1 25 rfl).2.2 rfl ⟨ly5_50, uy5_50⟩ (by omega) (by show _ < ((90721 : Nat) : Int); omega) dX10_free_66 (fun x_8 lx_8 ux_8 ex_8 => ?_)
              have J78 : ∀ (w0_78 : Int) (lw0_78 : -2147483648 ≤ w0_78) (uw0_78 : w0_78 ≤ 2147483647) (H : Heap) (locs : List Loc) (ls : Array Slot) (hw : Wd D A s.heap L0 f_6 H locs) (hl : lv_has ls 6 [(0, .ref a0), (2, .int (iI x2)), (3, .int (iI x3)), (5, .int (iI y5_50))]), W p l e ({ frames := 5, cells := 0, slots := 0, locals := 131 } : Room) s m ([.ref a0, .int (iI x1), .int (iI x2), .int (iI x3)] : List Value).toArray below meth c H locs (0 + 0 + 0 + 0 + 0) (0 + 0 + 0 + 0 + 0) (MQ below (Qi D (tq cy) L0 f0 s.heap.size (fun (r : Int) (L1 : List Nat) (f1 : Nat → va_E) => L0 = L1 ∧ MS cy L0 f1 a0 ad ∧ Kp a0 ad [11, 12, 13, 25] [10] f0 f1 ∧ (True))) ([.ref a0, .int (iI x1), .int (iI x2), .int (iI x3)] : List Value).toArray s 0 0 A) (F0 m 78 ls [.int (iI w0_78)]) := by
                intro w0_78 lw0_78 uw0_78 H locs ls hw hl
                refine lv_istore (lv' := [(4, .int (iI w0_78)), (0, .ref a0), (2, .int (iI x2)), (3, .int (iI x3)), (5, .int (iI y5_50))]) hx hb dX10_free_78 hl (by decide) rfl (fun ls hl => ?_)
                refine lv_iload hx hb dX10_free_80 (lv_at hl 0 rfl) ?_
                refine lv_iload_n hx hb dX10_free_82 rfl (lv_at hl 3 rfl) ?_
                refine q_icmp_ne (tgt := 113) hx hb dX10_free_83 (by decide) ⟨lw0_78, uw0_78⟩ ⟨lx3, ux3⟩ (fun c83 => ?_) (fun c83 => ?_)
                · obtain ⟨x_9, lx_9, ux_9, hx_9, ex_9⟩ := q_inc y5_50 (1)
                  try (replace ex_9 : x_9 = y5_50 + (1) := by omega)
                  refine lv_iinc (v := iI x_9) (lv' := [(5, .int (iI x_9)), (4, .int (iI w0_78)), (0, .ref a0), (2, .int (iI x2)), (3, .int (iI x3))]) hx hb dX10_free_113 hl (k := 4) rfl hx_9 (by decide) rfl (fun ls hl => ?_)
                  refine lv_goto (tgt := 50) hx hb dX10_free_116 (by decide) ?_
                  exact ih50 w0_78 lw0_78 uw0_78 x_9 lx_9 ux_9 (by omega) (by omega) _ _ _ hw (lv_sub hl [2, 3, 4, 1, 0] rfl)
                · refine lv_iload_n hx hb dX10_free_86 rfl (lv_at hl 2 rfl) ?_
                  refine lv_iload hx hb dX10_free_87 (lv_at hl 4 rfl) ?_
                  first | refine q_iadd hx hb dX10_free_89 ⟨by omega, by omega⟩ (fun x_10 lx_10 ux_10 ex_10 => ?_) | refine q_iaddw hx hb dX10_free_89 (fun x_10 lx_10 ux_10 ex_10 => ?_)
                  refine lv_iload_n hx hb dX10_free_90 rfl (lv_at hl 3 rfl) ?_
                  first | refine q_isub hx hb dX10_free_91 ⟨by omega, by omega⟩ (fun x_11 lx_11 ux_11 ex_11 => ?_) | refine q_isubw hx hb dX10_free_91 (fun x_11 lx_11 ux_11 ex_11 => ?_)
                  refine q_iconst hx hb dX10_free_92 ?_
                  first | refine q_iadd hx hb dX10_free_93 ⟨by omega, by omega⟩ (fun x_12 lx_12 ux_12 ex_12 => ?_) | refine q_iaddw hx hb dX10_free_93 (fun x_12 lx_12 ux_12 ex_12 => ?_)
                  refine q_call_i hA hK hw (va_runS (As := [.int (iI x_12)]) (rest := []) ⟨hx, hb, hml, hown, hts⟩ (c_X10_isTime zo l D cy L0 f_6 x_12 lx_12 ux_12 _) (va_cwS 1 hts (gT (inS (mr28 _ (List.mem_of_getElem? (i := 3) rfl)) (mr28 _ (List.mem_of_getElem? (i := 4) rfl)) (mr1 _ (List.mem_of_getElem? (i := 5) rfl)) (mr28 _ (List.mem_of_getElem? (i := 5) rfl)))) rfl rfl rfl (by decide +kernel) ⟨Nat.le_of_ble_eq_true rfl, Nat.le_of_ble_eq_true rfl⟩) (Wd.preS zo hA hZ hw hK) rfl rfl hl.1 rfl (lv_room (Nat.le_of_ble_eq_true rfl)) dX10_free_94 ⟨Nat.le_of_ble_eq_true rfl, Nat.le_of_ble_eq_true rfl⟩) (fun x_13 L1 f1 H locs lx_13 ux_13 ex_13 hw => ?_)
                  obtain ⟨rfl, rfl, ex_13⟩ := ex_13
                  refine q_if_eq (tgt := 111) hx hb dX10_free_97 (by decide) ⟨lx_13, ux_13⟩ (fun c97 => ?_) (fun c97 => ?_)
                  · refine q_iconst hx hb dX10_free_111 ?_
                    exact q_ret_i hx hb hr hlocks hK hAe hw ⟨by decide, by decide⟩ (Nat.le_of_ble_eq_true rfl) (Nat.le_of_ble_eq_true rfl) dX10_free_112 (by exact ⟨rfl, hs, hE, by first | trivial | omega⟩)
                  · refine lv_iload_n hx hb dX10_free_100 rfl (lv_at hl 2 rfl) ?_
                    refine lv_iload hx hb dX10_free_101 (lv_at hl 4 rfl) ?_
                    first | refine q_iadd hx hb dX10_free_103 ⟨by omega, by omega⟩ (fun x_14 lx_14 ux_14 ex_14 => ?_) | refine q_iaddw hx hb dX10_free_103 (fun x_14 lx_14 ux_14 ex_14 => ?_)
                    refine lv_iload_n hx hb dX10_free_104 rfl (lv_at hl 3 rfl) ?_
                    first | refine q_isub hx hb dX10_free_105 ⟨by omega, by omega⟩ (fun x_15 lx_15 ux_15 ex_15 => ?_) | refine q_isubw hx hb dX10_free_105 (fun x_15 lx_15 ux_15 ex_15 => ?_)
                    refine q_iconst hx hb dX10_free_106 ?_
                    first | refine q_iadd hx hb dX10_free_107 ⟨by omega, by omega⟩ (fun x_16 lx_16 ux_16 ex_16 => ?_) | refine q_iaddw hx hb dX10_free_107 (fun x_16 lx_16 ux_16 ex_16 => ?_)
                    refine lv_goto (tgt := 112) hx hb dX10_free_108 (by decide) ?_
                    exact q_ret_i hx hb hr hlocks hK hAe hw ⟨lx_16, ux_16⟩ (Nat.le_of_ble_eq_true rfl) (Nat.le_of_ble_eq_true rfl) dX10_free_112 (by exact ⟨rfl, hs, hE, by first | trivial | omega⟩)
              refine q_if_eq (tgt := 74) hx hb dX10_free_67 (by decide) ⟨lx_8, ux_8⟩ (fun c67 => ?_) (fun c67 => ?_)
              · refine lv_iload hx hb dX10_free_74 (lv_at hl 3 rfl) ?_
                refine q_iconst hx hb dX10_free_76 ?_
                first | refine q_iadd hx hb dX10_free_77 ⟨by omega, by omega⟩ (fun x_17 lx_17 ux_17 ex_17 => ?_) | refine q_iaddw hx hb dX10_free_77 (fun x_17 lx_17 ux_17 ex_17 => ?_)
                exact J78 x_17 lx_17 ux_17 _ _ _ hw (lv_sub hl [0, 1, 2, 4] rfl)
              · refine q_iconst hx hb dX10_free_70 ?_
                refine lv_goto (tgt := 78) hx hb dX10_free_71 (by decide) ?_
                exact J78 0 (by decide) (by decide) _ _ _ hw (lv_sub hl [0, 1, 2, 4] rfl)
        exact J50 ((((2147483647 : Int) - 0).toNat) + 1) 0 (by decide) (by decide) 0 (by decide) (by decide) (by omega) (by omega) _ _ _ hw (lv_sub hl [2, 4, 5, 1, 0] rfl)
      · refine q_iconst hx hb dX10_free_33 ?_
        exact q_ret_i hx hb hr hlocks hK hAe hw ⟨by decide, by decide⟩ (Nat.le_of_ble_eq_true rfl) (Nat.le_of_ble_eq_true rfl) dX10_free_34 (by exact ⟨rfl, hs, hE, by first | trivial | omega⟩)
set_option maxHeartbeats 4000000 in
set_option maxRecDepth 100000 in
theorem c_X10_busyOf {Z : Zt} (zo : Zok Z) (l : Launch) (D : va_G) (cy : Cy) (L0 : List Nat) (f0 : Nat → va_E) (a0 : Nat) (x1 : Int) (lx1 : -2147483648 ≤ x1) (ux1 : x1 ≤ 2147483647) (x2 : Int) (lx2 : -2147483648 ≤ x2) (ux2 : x2 ≤ 2147483647) (ad : Nat → Nat) (hs : MS cy L0 f0 a0 ad) (hv : MV f0 a0 ad) (h1 : 0 ≤ x2) (h2 : x2 ≤ 36524) : Ci Z l yX10_busyOf (Cond.code yX10_busyOf cX10_busyOf 5 (some .int) :: TB) ({ frames := 5, cells := 0, slots := 0, locals := 131 } : Room) 0 0 D (tq cy) [.ref a0, .int (iI x1), .int (iI x2)] L0 f0 (fun (r : Int) (L1 : List Nat) (f1 : Nat → va_E) => L0 = L1 ∧ MS cy L0 f1 a0 ad ∧ Kp a0 ad [11, 12, 13, 25] [] f0 f1 ∧ (True)) := by
  refine Ci.enter (cc := cX10_busyOf) (n := 5) rfl (plainFor_of_name (by decide)) (Nat.le_of_ble_eq_true rfl) ?_
  intro p e s m below meth c ls A hx hb hr hts hown hlocks hnm hml hK hA hAe hw hZ hl
  have hown : s.vm.findClass RX10 = some m.cls := hown
  have hl : lv_has ls 5 [(0, .ref a0), (1, .int (iI x1)), (2, .int (iI x2))] := hl
  have hN : ZN s := (zo.2.2.2.2 _ _ _ hZ).2
  have hE : Kp a0 ad [11, 12, 13, 25] [] f0 f0 := Kp.refl _ _ _ _ _
  have m5 := hv.1
  have m6 := hv.2.1
  refine lv_aload_n hx hb dX10_busyOf_0 rfl (lv_at hl 0 rfl) ?_
  refine lv_iload_n hx hb dX10_busyOf_1 rfl (lv_at hl 1 rfl) ?_
  refine q_sipush hx hb dX10_busyOf_2 rfl ?_
  refine lv_iload_n hx hb dX10_busyOf_5 rfl (lv_at hl 2 rfl) ?_
  first | refine q_imul hx hb dX10_busyOf_6 ⟨by omega, by omega⟩ (fun x_1 lx_1 ux_1 ex_1 => ?_) | refine q_imulw hx hb dX10_busyOf_6 (fun x_1 lx_1 ux_1 ex_1 => ?_)
  refine q_sipush hx hb dX10_busyOf_7 rfl ?_
  refine q_call_v hA hK hw (va_runV (As := [.int (iI x1), .int (iI x_1), .int (iI 1440)]) (rest := []) ⟨hx, hb, hml, hown, hts⟩ (c_X10_laysTaken zo l D cy L0 f0 a0 x1 lx1 ux1 x_1 lx_1 ux_1 1440 (by decide) (by decide) ad hs (by first | exact hv | exact hv.kp hE (by decide) (by decide)) (by omega) _) (cwV 3 hts (gT (inV (mr38 _ (List.mem_of_getElem? (i := 23) rfl)) (mr39 _ (List.mem_of_getElem? (i := 0) rfl)) (mr39 _ (List.mem_of_getElem? (i := 1) rfl)) (mr1 _ (List.mem_of_getElem? (i := 5) rfl)) (mr39 _ (List.mem_of_getElem? (i := 2) rfl)))) rfl rfl rfl (by decide +kernel) ⟨Nat.le_of_ble_eq_true rfl, Nat.le_of_ble_eq_true rfl⟩) (Wd.preV zo hA hZ hw hK hs.1 hs.2.1 rfl) rfl rfl hl.1 rfl (lv_room (Nat.le_of_ble_eq_true rfl)) dX10_busyOf_10 ⟨Nat.le_of_ble_eq_true rfl, Nat.le_of_ble_eq_true rfl⟩) (fun L1 f_3 H locs ex_2 hw => ?_)
  obtain ⟨rfl, hs, hX, ex_2⟩ := ex_2
  have hE := hE.trans (hX.mono (rs' := [11, 12, 13, 25]) (fs' := []) (by decide) (by decide))
  have t5_f_3 : fI f_3 a0 5 = fI f0 a0 5 := hX.2 5 (by decide)
  refine q_iconst hx hb dX10_busyOf_13 ?_
  refine lv_istore_n (lv' := [(3, .int (iI 0)), (0, .ref a0), (1, .int (iI x1)), (2, .int (iI x2))]) hx hb dX10_busyOf_14 rfl hl (by decide) rfl (fun ls hl => ?_)
  refine q_iconst hx hb dX10_busyOf_15 ?_
  refine lv_istore (lv' := [(4, .int (iI 0)), (3, .int (iI 0)), (0, .ref a0), (1, .int (iI x1)), (2, .int (iI x2))]) hx hb dX10_busyOf_16 hl (by decide) rfl (fun ls hl => ?_)
  have J18 : ∀ (n18 : Nat) (y3_18 : Int) (ly3_18 : -2147483648 ≤ y3_18) (uy3_18 : y3_18 ≤ 2147483647) (y4_18 : Int) (ly4_18 : -2147483648 ≤ y4_18) (uy4_18 : y4_18 ≤ 2147483647) (i1 : 0 ≤ y4_18) (hn18 : ((2147483647 : Int) - y4_18).toNat < n18) (H : Heap) (locs : List Loc) (ls : Array Slot) (hw : Wd D A s.heap L0 f_3 H locs) (hl : lv_has ls 5 [(0, .ref a0), (3, .int (iI y3_18)), (4, .int (iI y4_18))]), W p l e ({ frames := 5, cells := 0, slots := 0, locals := 131 } : Room) s m ([.ref a0, .int (iI x1), .int (iI x2)] : List Value).toArray below meth c H locs (0 + 0) (0 + 0) (MQ below (Qi D (tq cy) L0 f0 s.heap.size (fun (r : Int) (L1 : List Nat) (f1 : Nat → va_E) => L0 = L1 ∧ MS cy L0 f1 a0 ad ∧ Kp a0 ad [11, 12, 13, 25] [] f0 f1 ∧ (True))) ([.ref a0, .int (iI x1), .int (iI x2)] : List Value).toArray s 0 0 A) (F0 m 18 ls []) := by
    intro n18
    induction n18 with
    | zero => intro y3_18 ly3_18 uy3_18 y4_18 ly4_18 uy4_18 i1 hn18; exact absurd hn18 (Nat.not_lt_zero _)
    | succ n18 ih18 =>
      intro y3_18 ly3_18 uy3_18 y4_18 ly4_18 uy4_18 i1 hn18 H locs ls hw hl
      refine lv_iload hx hb dX10_busyOf_18 (lv_at hl 2 rfl) ?_
      refine q_sipush hx hb dX10_busyOf_20 rfl ?_
      refine q_icmp_ge (tgt := 45) hx hb dX10_busyOf_23 (by decide) ⟨ly4_18, uy4_18⟩ ⟨by decide, by decide⟩ (fun c23 => ?_) (fun c23 => ?_)
      · refine lv_iload_n hx hb dX10_busyOf_45 rfl (lv_at hl 1 rfl) ?_
        exact q_ret_i hx hb hr hlocks hK hAe hw ⟨ly3_18, uy3_18⟩ (Nat.le_of_ble_eq_true rfl) (Nat.le_of_ble_eq_true rfl) dX10_busyOf_46 (by exact ⟨rfl, hs, hE, by first | trivial | omega⟩)
      · refine lv_aload_n hx hb dX10_busyOf_26 rfl (lv_at hl 0 rfl) ?_
        refine q_getr (ci := 8) (C := RX10) (T := TX10) (N := 26) hx hb hts (fun w h => List.mem_cons_of_mem _ (mfX100 w h)) hown hK hw hs.1 hs.2.1 rfl 25 (by decide) (hts _ (List.mem_cons_of_mem _ (mr4 _ (List.mem_of_getElem? (i := 2) rfl)))) (fun _ h => h) rfl (hs.2.2.1 25 rfl).1 dX10_busyOf_27 ?_
        refine lv_iload hx hb dX10_busyOf_30 (lv_at hl 2 rfl) ?_
        refine q_zald hx hb hK hw (hs.2.2.1 25 rfl).2.1 2 (hs.2.2.1 25 rfl).2.2 rfl ⟨ly4_18, uy4_18⟩ (by omega) (by show _ < ((90721 : Nat) : Int); omega) dX10_busyOf_32 (fun x_4 lx_4 ux_4 ex_4 => ?_)
        have J39 : ∀ (z3_39 : Int) (lz3_39 : -2147483648 ≤ z3_39) (uz3_39 : z3_39 ≤ 2147483647) (H : Heap) (locs : List Loc) (ls : Array Slot) (hw : Wd D A s.heap L0 f_3 H locs) (hl : lv_has ls 5 [(0, .ref a0), (3, .int (iI z3_39)), (4, .int (iI y4_18))]), W p l e ({ frames := 5, cells := 0, slots := 0, locals := 131 } : Room) s m ([.ref a0, .int (iI x1), .int (iI x2)] : List Value).toArray below meth c H locs (0 + 0) (0 + 0) (MQ below (Qi D (tq cy) L0 f0 s.heap.size (fun (r : Int) (L1 : List Nat) (f1 : Nat → va_E) => L0 = L1 ∧ MS cy L0 f1 a0 ad ∧ Kp a0 ad [11, 12, 13, 25] [] f0 f1 ∧ (True))) ([.ref a0, .int (iI x1), .int (iI x2)] : List Value).toArray s 0 0 A) (F0 m 39 ls []) := by
          intro z3_39 lz3_39 uz3_39 H locs ls hw hl
          obtain ⟨x_5, lx_5, ux_5, hx_5, ex_5⟩ := q_inc y4_18 (1)
          try (replace ex_5 : x_5 = y4_18 + (1) := by omega)
          refine lv_iinc (v := iI x_5) (lv' := [(4, .int (iI x_5)), (0, .ref a0), (3, .int (iI z3_39))]) hx hb dX10_busyOf_39 hl (k := 2) rfl hx_5 (by decide) rfl (fun ls hl => ?_)
          refine lv_goto (tgt := 18) hx hb dX10_busyOf_42 (by decide) ?_
          exact ih18 z3_39 lz3_39 uz3_39 x_5 lx_5 ux_5 (by omega) (by omega) _ _ _ hw (lv_sub hl [1, 2, 0] rfl)
        refine q_if_eq (tgt := 39) hx hb dX10_busyOf_33 (by decide) ⟨lx_4, ux_4⟩ (fun c33 => ?_) (fun c33 => ?_)
        · exact J39 y3_18 ly3_18 uy3_18 _ _ _ hw (lv_sub hl [0, 1, 2] rfl)
        · obtain ⟨x_6, lx_6, ux_6, hx_6, ex_6⟩ := q_inc y3_18 (1)
          try (replace ex_6 : x_6 = y3_18 + (1) := by omega)
          refine lv_iinc (v := iI x_6) (lv' := [(3, .int (iI x_6)), (0, .ref a0), (4, .int (iI y4_18))]) hx hb dX10_busyOf_36 hl (k := 1) rfl hx_6 (by decide) rfl (fun ls hl => ?_)
          exact J39 x_6 lx_6 ux_6 _ _ _ hw (lv_sub hl [1, 0, 2] rfl)
  exact J18 ((((2147483647 : Int) - 0).toNat) + 1) 0 (by decide) (by decide) 0 (by decide) (by decide) (by omega) (by omega) _ _ _ hw (lv_sub hl [2, 1, 0] rfl)
set_option maxHeartbeats 4000000 in
set_option maxRecDepth 100000 in
theorem c_X10_busy {Z : Zt} (zo : Zok Z) (l : Launch) (D : va_G) (cy : Cy) (L0 : List Nat) (f0 : Nat → va_E) (a0 : Nat) (x1 : Int) (lx1 : -2147483648 ≤ x1) (ux1 : x1 ≤ 2147483647) (x2 : Int) (lx2 : -2147483648 ≤ x2) (ux2 : x2 ≤ 2147483647) (ad : Nat → Nat) (hs : MS cy L0 f0 a0 ad) (hv : MV f0 a0 ad) : Ci Z l yX10_busy (Cond.code yX10_busy cX10_busy 3 (some .int) :: TB) ({ frames := 6, cells := 0, slots := 0, locals := 155 } : Room) 0 0 D (tq cy) [.ref a0, .int (iI x1), .int (iI x2)] L0 f0 (fun (r : Int) (L1 : List Nat) (f1 : Nat → va_E) => L0 = L1 ∧ MS cy L0 f1 a0 ad ∧ Kp a0 ad [11, 12, 13, 25] [10] f0 f1 ∧ (True)) := by
  refine Ci.enter (cc := cX10_busy) (n := 3) rfl (plainFor_of_name (by decide)) (Nat.le_of_ble_eq_true rfl) ?_
  intro p e s m below meth c ls A hx hb hr hts hown hlocks hnm hml hK hA hAe hw hZ hl
  have hown : s.vm.findClass RX10 = some m.cls := hown
  have hl : lv_has ls 3 [(0, .ref a0), (1, .int (iI x1)), (2, .int (iI x2))] := hl
  have hN : ZN s := (zo.2.2.2.2 _ _ _ hZ).2
  have hE : Kp a0 ad [11, 12, 13, 25] [10] f0 f0 := Kp.refl _ _ _ _ _
  have m5 := hv.1
  have m6 := hv.2.1
  refine lv_aload_n hx hb dX10_busy_0 rfl (lv_at hl 0 rfl) ?_
  refine q_iconst hx hb dX10_busy_1 ?_
  refine q_puti (ci := 8) (C := RX10) (T := TX10) (N := 26) hx hb hts (fun w h => List.mem_cons_of_mem _ (mfX100 w h)) hown hK hw hs.1 hs.2.1 rfl 10 (by decide) (hts _ (List.mem_cons_of_mem _ (mr4 _ (List.mem_of_getElem? (i := 19) rfl)))) (fun _ h => h) tyX10 tyX10_ok nmX10 rfl (ty := .int) (by decide +kernel) rfl rfl dX10_busy_2 (fun H locs hw => ?_)
  obtain ⟨f_1, ef_1⟩ : ∃ g : Nat → va_E, g = pU f0 a0 10 (.int (iI 0)) := ⟨_, rfl⟩
  have v10_f_1 : fI f_1 a0 10 = 0 := by rw [ef_1]; exact fI_pU_self hs.2.1 rfl ⟨by decide, by decide⟩
  have t5_f_1 : fI f_1 a0 5 = fI f0 a0 5 := by rw [ef_1]; exact fI_pU (Or.inr (by decide))
  have hE := hE.trans (show Kp a0 ad [11, 12, 13, 25] [10] f0 f_1 by rw [ef_1]; exact Kp_pU hs (by decide))
  have hs : MS cy L0 f_1 a0 ad := by rw [ef_1]; exact MS_pU hs rfl
  rw [← ef_1] at hw
  refine lv_iload_n hx hb dX10_busy_5 rfl (lv_at hl 1 rfl) ?_
  refine q_iconst hx hb dX10_busy_6 ?_
  refine q_bipush hx hb dX10_busy_7 rfl ?_
  refine q_call_i hA hK hw (va_runS (As := [.int (iI x1), .int (iI 0), .int (iI 7)]) (rest := []) ⟨hx, hb, hml, hown, hts⟩ (c_X10_within zo l D cy L0 f_1 x1 lx1 ux1 0 (by decide) (by decide) 7 (by decide) (by decide) _) (va_cwS 3 hts (gT (inS (mr5 _ (List.mem_of_getElem? (i := 9) rfl)) (mr5 _ (List.mem_of_getElem? (i := 10) rfl)) (mr1 _ (List.mem_of_getElem? (i := 5) rfl)) (mr5 _ (List.mem_of_getElem? (i := 11) rfl)))) rfl rfl rfl (by decide +kernel) ⟨Nat.le_of_ble_eq_true rfl, Nat.le_of_ble_eq_true rfl⟩) (Wd.preS zo hA hZ hw hK) rfl rfl hl.1 rfl (lv_room (Nat.le_of_ble_eq_true rfl)) dX10_busy_9 ⟨Nat.le_of_ble_eq_true rfl, Nat.le_of_ble_eq_true rfl⟩) (fun x_2 L1 f1 H locs lx_2 ux_2 ex_2 hw => ?_)
  obtain ⟨rfl, rfl, ex_2⟩ := ex_2
  refine q_if_eq (tgt := 31) hx hb dX10_busy_12 (by decide) ⟨lx_2, ux_2⟩ (fun c12 => ?_) (fun c12 => ?_)
  · refine q_iconst hx hb dX10_busy_31 ?_
    exact q_ret_i hx hb hr hlocks hK hAe hw ⟨by decide, by decide⟩ (Nat.le_of_ble_eq_true rfl) (Nat.le_of_ble_eq_true rfl) dX10_busy_32 (by exact ⟨rfl, hs, hE, by first | trivial | omega⟩)
  · refine lv_iload_n hx hb dX10_busy_15 rfl (lv_at hl 2 rfl) ?_
    refine q_call_i hA hK hw (va_runS (As := [.int (iI x2)]) (rest := []) ⟨hx, hb, hml, hown, hts⟩ (c_X10_isDay zo l D cy L0 f_1 x2 lx2 ux2 _) (va_cwS 1 hts (gT (inS (mr23 _ (List.mem_of_getElem? (i := 21) rfl)) (mr23 _ (List.mem_of_getElem? (i := 22) rfl)) (mr1 _ (List.mem_of_getElem? (i := 5) rfl)) (mr23 _ (List.mem_of_getElem? (i := 23) rfl)))) rfl rfl rfl (by decide +kernel) ⟨Nat.le_of_ble_eq_true rfl, Nat.le_of_ble_eq_true rfl⟩) (Wd.preS zo hA hZ hw hK) rfl rfl hl.1 rfl (lv_room (Nat.le_of_ble_eq_true rfl)) dX10_busy_16 ⟨Nat.le_of_ble_eq_true rfl, Nat.le_of_ble_eq_true rfl⟩) (fun x_3 L1 f1 H locs lx_3 ux_3 ex_3 hw => ?_)
    obtain ⟨rfl, rfl, ex_3⟩ := ex_3
    refine q_if_eq (tgt := 31) hx hb dX10_busy_19 (by decide) ⟨lx_3, ux_3⟩ (fun c19 => ?_) (fun c19 => ?_)
    · refine q_iconst hx hb dX10_busy_31 ?_
      exact q_ret_i hx hb hr hlocks hK hAe hw ⟨by decide, by decide⟩ (Nat.le_of_ble_eq_true rfl) (Nat.le_of_ble_eq_true rfl) dX10_busy_32 (by exact ⟨rfl, hs, hE, by first | trivial | omega⟩)
    · refine lv_aload_n hx hb dX10_busy_22 rfl (lv_at hl 0 rfl) ?_
      refine lv_iload_n hx hb dX10_busy_23 rfl (lv_at hl 1 rfl) ?_
      refine lv_iload_n hx hb dX10_busy_24 rfl (lv_at hl 2 rfl) ?_
      refine q_call_i hA hK hw (va_runV (As := [.int (iI x1), .int (iI x2)]) (rest := []) ⟨hx, hb, hml, hown, hts⟩ (c_X10_busyOf zo l D cy L0 f_1 a0 x1 lx1 ux1 x2 lx2 ux2 ad hs (by first | exact hv | exact hv.kp hE (by decide) (by decide)) (by omega) (by omega) _) (cwV 2 hts (gT (inV (mr39 _ (List.mem_of_getElem? (i := 19) rfl)) (mr39 _ (List.mem_of_getElem? (i := 20) rfl)) (mr39 _ (List.mem_of_getElem? (i := 21) rfl)) (mr1 _ (List.mem_of_getElem? (i := 5) rfl)) (mr39 _ (List.mem_of_getElem? (i := 22) rfl)))) rfl rfl rfl (by decide +kernel) ⟨Nat.le_of_ble_eq_true rfl, Nat.le_of_ble_eq_true rfl⟩) (Wd.preV zo hA hZ hw hK hs.1 hs.2.1 rfl) rfl rfl hl.1 rfl (lv_room (Nat.le_of_ble_eq_true rfl)) dX10_busy_25 ⟨Nat.le_of_ble_eq_true rfl, Nat.le_of_ble_eq_true rfl⟩) (fun x_4 L1 f_5 H locs lx_4 ux_4 ex_4 hw => ?_)
      obtain ⟨rfl, hs, hX, ex_4⟩ := ex_4
      have hE := hE.trans (hX.mono (rs' := [11, 12, 13, 25]) (fs' := [10]) (by decide) (by decide))
      have t5_f_5 : fI f_5 a0 5 = fI f_1 a0 5 := hX.2 5 (by decide)
      refine lv_goto (tgt := 32) hx hb dX10_busy_28 (by decide) ?_
      exact q_ret_i hx hb hr hlocks hK hAe hw ⟨lx_4, ux_4⟩ (Nat.le_of_ble_eq_true rfl) (Nat.le_of_ble_eq_true rfl) dX10_busy_32 (by exact ⟨rfl, hs, hE, by first | trivial | omega⟩)