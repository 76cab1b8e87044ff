set_option maxHeartbeats 4000000 in
set_option maxRecDepth 100000 in
theorem c_X10_cancel_f {Z : Zt} (zo : Zok Z) (l : Launch) (D : va_G) (cy : Cy) (L0 : List Nat) (f0 : Nat → va_E) (a0 : Nat) (x1 : Int) (lx1 : -2147483648 ≤ x1) (ux1 : x1 ≤ 2147483647) (ad : Nat → Nat) (hs : MS cy L0 f0 a0 ad) (hv : MV f0 a0 ad) : Ci Z l yX10_cancel (Cond.code yX10_cancel cX10_cancel 3 (some .boolean) :: TB) ({ frames := 2, cells := 0, slots := 0, locals := 43 } : Room) 0 0 D (tq cy) [.ref a0, .int (iI x1)] L0 f0 (fun (r : Int) (L1 : List Nat) (f1 : Nat → va_E) => L0 = L1 ∧ MS cy L0 f1 a0 ad ∧ Kp a0 ad [4] [5, 10] f0 f1 ∧ (MV f1 a0 ad ∧ ((r = 0 ∧ (x1 < 0 ∨ fI f0 a0 5 ≤ x1) ∧ fI f1 a0 5 = fI f0 a0 5 ∧ ∀ x : Int, aI f1 (ad 4) x = aI f0 (ad 4) x) ∨ (r = 1 ∧ 0 ≤ x1 ∧ x1 < fI f0 a0 5 ∧ fI f1 a0 5 = fI f0 a0 5 - 1 ∧ (∀ x : Int, 0 ≤ x → x < 44 * x1 → aI f1 (ad 4) x = aI f0 (ad 4) x) ∧ (∀ x : Int, 44 * x1 ≤ x → x < 44 * (fI f0 a0 5 - 1) → aI f1 (ad 4) x = aI f0 (ad 4) (x + 44)))))) := by
  refine Ci.enter (cc := cX10_cancel) (n := 3) rfl (plainFor_of_name (by decide)) (Nat.le_of_ble_eq_true rfl) ?_
  intro p e s m below meth c ls A hx hb hr hts hown hlocks hnm hml hK hA hAe hw hZ hl
  have hown : s.vm.findClass RX10 = some m.cls := hown
  have hl : lv_has ls 3 [(0, .ref a0), (1, .int (iI x1))] := hl
  have hN : ZN s := (zo.2.2.2.2 _ _ _ hZ).2
  have hE : Kp a0 ad [4] [5, 10] f0 f0 := Kp.refl _ _ _ _ _
  have m5 := hv.1
  have m6 := hv.2.1
  have cb : ∀ x : Int, aI f0 (ad 4) x = aI f0 (ad 4) x := fun _ => rfl
  refine lv_aload_n hx hb dX10_cancel_0 rfl (lv_at hl 0 rfl) ?_
  refine q_iconst hx hb dX10_cancel_1 ?_
  refine q_puti (ci := 8) (C := RX10) (T := TX10) (N := 26) hx hb hts (fun w h => List.mem_cons_of_mem _ (mfX100 w h)) hown hK hw hs.1 hs.2.1 rfl 10 (by decide) (hts _ (List.mem_cons_of_mem _ (mr4 _ (List.mem_of_getElem? (i := 19) rfl)))) (fun _ h => h) tyX10 tyX10_ok nmX10 rfl (ty := .int) (by decide +kernel) rfl rfl dX10_cancel_2 (fun H locs hw => ?_)
  obtain ⟨f_1, ef_1⟩ : ∃ g : Nat → va_E, g = pU f0 a0 10 (.int (iI 0)) := ⟨_, rfl⟩
  have v10_f_1 : fI f_1 a0 10 = 0 := by rw [ef_1]; exact fI_pU_self hs.2.1 rfl ⟨by decide, by decide⟩
  have t5_f_1 : fI f_1 a0 5 = fI f0 a0 5 := by rw [ef_1]; exact fI_pU (Or.inr (by decide))
  have hE := hE.trans (show Kp a0 ad [4] [5, 10] f0 f_1 by rw [ef_1]; exact Kp_pU hs (by decide))
  have hs_ := hs
  have hs : MS cy L0 f_1 a0 ad := by rw [ef_1]; exact MS_pU hs rfl
  rw [← ef_1] at hw
  have cb : ∀ x : Int, aI f_1 (ad 4) x = aI f0 (ad 4) x := fun x => Eq.trans (by rw [ef_1]; exact hs_.aI_pU _ _) (cb x)
  refine lv_aload_n hx hb dX10_cancel_5 rfl (lv_at hl 0 rfl) ?_
  refine lv_iload_n hx hb dX10_cancel_6 rfl (lv_at hl 1 rfl) ?_
  refine q_call_i hA hK hw (va_runV (As := [.int (iI x1)]) (rest := []) ⟨hx, hb, hml, hown, hts⟩ (c_X10_isBooking zo l D cy L0 f_1 a0 x1 lx1 ux1 ad hs (by omega) _) (cwV 1 hts (gT (inV (mr22 _ (List.mem_of_getElem? (i := 21) rfl)) (mr22 _ (List.mem_of_getElem? (i := 22) rfl)) (mr22 _ (List.mem_of_getElem? (i := 23) rfl)) (mr1 _ (List.mem_of_getElem? (i := 5) rfl)) (mr23 _ (List.mem_of_getElem? (i := 0) rfl)))) rfl rfl rfl (by decide +kernel) ⟨Nat.le_of_ble_eq_true rfl, Nat.le_of_ble_eq_true rfl⟩) (Wd.preV zo hA hZ hw hK hs.1 hs.2.1 rfl) rfl rfl hl.1 rfl (lv_room (Nat.le_of_ble_eq_true rfl)) dX10_cancel_7 ⟨Nat.le_of_ble_eq_true rfl, Nat.le_of_ble_eq_true rfl⟩) (fun x_2 L1 f1 H locs lx_2 ux_2 ex_2 hw => ?_)
  obtain ⟨rfl, rfl, ex_2⟩ := ex_2
  refine q_if_ne (tgt := 15) hx hb dX10_cancel_10 (by decide) ⟨lx_2, ux_2⟩ (fun c10 => ?_) (fun c10 => ?_)
  · refine lv_aload_n hx hb dX10_cancel_15 rfl (lv_at hl 0 rfl) ?_
    refine lv_dup hx hb dX10_cancel_16 rfl ?_
    refine q_geti (ci := 8) (C := RX10) (T := TX10) (N := 26) hx hb hts (fun w h => List.mem_cons_of_mem _ (mfX100 w h)) hown hK hw hs.1 hs.2.1 rfl 5 (by decide) (hts _ (List.mem_cons_of_mem _ (mr19 _ (List.mem_of_getElem? (i := 1) rfl)))) (fun _ h => h) rfl dX10_cancel_17 (fun x_3 lx_3 ux_3 ex_3 => ?_)
    refine q_iconst hx hb dX10_cancel_20 ?_
    first | refine q_isub hx hb dX10_cancel_21 ⟨by omega, by omega⟩ (fun x_4 lx_4 ux_4 ex_4 => ?_) | refine q_isubw hx hb dX10_cancel_21 (fun x_4 lx_4 ux_4 ex_4 => ?_)
    refine q_puti (ci := 8) (C := RX10) (T := TX10) (N := 26) hx hb hts (fun w h => List.mem_cons_of_mem _ (mfX100 w h)) hown hK hw hs.1 hs.2.1 rfl 5 (by decide) (hts _ (List.mem_cons_of_mem _ (mr19 _ (List.mem_of_getElem? (i := 1) rfl)))) (fun _ h => h) tyX10 tyX10_ok nmX10 rfl (ty := .int) (by decide +kernel) rfl rfl dX10_cancel_22 (fun H locs hw => ?_)
    obtain ⟨f_5, ef_5⟩ : ∃ g : Nat → va_E, g = pU f_1 a0 5 (.int (iI x_4)) := ⟨_, rfl⟩
    have v5_f_5 : fI f_5 a0 5 = x_4 := by rw [ef_5]; exact fI_pU_self hs.2.1 rfl ⟨lx_4, ux_4⟩
    have hE := hE.trans (show Kp a0 ad [4] [5, 10] f_1 f_5 by rw [ef_5]; exact Kp_pU hs (by decide))
    have hs_ := hs
    have hs : MS cy L0 f_5 a0 ad := by rw [ef_5]; exact MS_pU hs rfl
    rw [← ef_5] at hw
    have cb : ∀ x : Int, aI f_5 (ad 4) x = aI f0 (ad 4) x := fun x => Eq.trans (by rw [ef_5]; exact hs_.aI_pU _ _) (cb x)
    refine q_bipush hx hb dX10_cancel_25 rfl ?_
    refine lv_iload_n hx hb dX10_cancel_27 rfl (lv_at hl 1 rfl) ?_
    first | refine q_imul hx hb dX10_cancel_28 ⟨by omega, by omega⟩ (fun x_6 lx_6 ux_6 ex_6 => ?_) | refine q_imulw hx hb dX10_cancel_28 (fun x_6 lx_6 ux_6 ex_6 => ?_)
    refine lv_istore_n (lv' := [(2, .int (iI x_6)), (0, .ref a0), (1, .int (iI x1))]) hx hb dX10_cancel_29 rfl hl (by decide) rfl (fun ls hl => ?_)
    have J30 : ∀ (n30 : Nat) (y2_30 : Int) (ly2_30 : -2147483648 ≤ y2_30) (uy2_30 : y2_30 ≤ 2147483647) (L : List Nat) (fw30 : Nat → va_E) (hs : MS cy L0 fw30 a0 ad) (hE : Kp a0 ad [4] [5, 10] f0 fw30) (i1 : 44 * x1 ≤ y2_30) (i2 : fI fw30 a0 5 = fI f0 a0 5 - 1) (ca : ∀ x : Int, 44 * x1 ≤ x → x < y2_30 → aI fw30 (ad 4) x = aI f0 (ad 4) (x + 44)) (cb : ∀ x : Int, 0 ≤ x → (x < 44 * x1 ∨ y2_30 ≤ x) → aI fw30 (ad 4) x = aI f0 (ad 4) x) (hn30 : ((2147483647 : Int) - y2_30).toNat < n30) (H : Heap) (locs : List Loc) (ls : Array Slot) (hw : Wd D A s.heap L0 fw30 H locs) (hl : lv_has ls 3 [(0, .ref a0), (2, .int (iI y2_30))]), W p l e ({ frames := 2, cells := 0, slots := 0, locals := 43 } : Room) s m ([.ref a0, .int (iI x1)] : List Value).toArray below meth c H locs (0 + 0) (0 + 0) (MQ below (Qi D (tq cy) L0 f0 s.heap.size (fun (r : Int) (L1 : List Nat) (f1 : Nat → va_E) => L0 = L1 ∧ MS cy L0 f1 a0 ad ∧ Kp a0 ad [4] [5, 10] f0 f1 ∧ (MV f1 a0 ad ∧ ((r = 0 ∧ (x1 < 0 ∨ fI f0 a0 5 ≤ x1) ∧ fI f1 a0 5 = fI f0 a0 5 ∧ ∀ x : Int, aI f1 (ad 4) x = aI f0 (ad 4) x) ∨ (r = 1 ∧ 0 ≤ x1 ∧ x1 < fI f0 a0 5 ∧ fI f1 a0 5 = fI f0 a0 5 - 1 ∧ (∀ x : Int, 0 ≤ x → x < 44 * x1 → aI f1 (ad 4) x = aI f0 (ad 4) x) ∧ (∀ x : Int, 44 * x1 ≤ x → x < 44 * (fI f0 a0 5 - 1) → aI f1 (ad 4) x = aI f0 (ad 4) (x + 44))))))) ([.ref a0, .int (iI x1)] : List Value).toArray s 0 0 A) (F0 m 30 ls []) := by
      intro n30
      induction n30 with
      | zero => intro y2_30 ly2_30 uy2_30 L fw30 hs hE i1 i2 ca cb hn30; exact absurd hn30 (Nat.not_lt_zero _)
      | succ n30 ih30 =>
        intro y2_30 ly2_30 uy2_30 L fw30 hs hE i1 i2 ca cb hn30 H locs ls hw hl
        refine lv_iload_n hx hb dX10_cancel_30 rfl (lv_at hl 1 rfl) ?_
        refine q_bipush hx hb dX10_cancel_31 rfl ?_
        refine lv_aload_n hx hb dX10_cancel_33 rfl (lv_at hl 0 rfl) ?_
        refine q_geti (ci := 8) (C := RX10) (T := TX10) (N := 26) hx hb hts (fun w h => List.mem_cons_of_mem _ (mfX100 w h)) hown hK hw hs.1 hs.2.1 rfl 5 (by decide) (hts _ (List.mem_cons_of_mem _ (mr19 _ (List.mem_of_getElem? (i := 1) rfl)))) (fun _ h => h) rfl dX10_cancel_34 (fun x_7 lx_7 ux_7 ex_7 => ?_)
        first | refine q_imul hx hb dX10_cancel_37 ⟨by omega, by omega⟩ (fun x_8 lx_8 ux_8 ex_8 => ?_) | refine q_imulw hx hb dX10_cancel_37 (fun x_8 lx_8 ux_8 ex_8 => ?_)
        refine q_icmp_ge (tgt := 62) hx hb dX10_cancel_38 (by decide) ⟨ly2_30, uy2_30⟩ ⟨lx_8, ux_8⟩ (fun c38 => ?_) (fun c38 => ?_)
        · refine q_iconst hx hb dX10_cancel_62 ?_
          exact q_ret_z hx hb hr hlocks hK hAe hw (by omega) (Nat.le_of_ble_eq_true rfl) (Nat.le_of_ble_eq_true rfl) dX10_cancel_63 (by exact ⟨rfl, hs, hE, hv.less (c := x1) (by omega) (by omega) (by omega) (fun x q0 q1 => cb x q0 (by omega)) (fun x q0 q1 => ca x q0 (by omega)), Or.inr ⟨by omega, by omega, by omega, by omega, fun x q0 q1 => cb x q0 (by omega), fun x q0 q1 => ca x q0 (by omega)⟩⟩)
        · refine lv_aload_n hx hb dX10_cancel_41 rfl (lv_at hl 0 rfl) ?_
          refine q_getr (ci := 8) (C := RX10) (T := TX10) (N := 26) hx hb hts (fun w h => List.mem_cons_of_mem _ (mfX100 w h)) hown hK hw hs.1 hs.2.1 rfl 4 (by decide) (hts _ (List.mem_cons_of_mem _ (mr3 _ (List.mem_of_getElem? (i := 14) rfl)))) (fun _ h => h) rfl (hs.2.2.1 4 rfl).1 dX10_cancel_42 ?_
          refine lv_iload_n hx hb dX10_cancel_45 rfl (lv_at hl 1 rfl) ?_
          refine lv_aload_n hx hb dX10_cancel_46 rfl (lv_at hl 0 rfl) ?_
          refine q_getr (ci := 8) (C := RX10) (T := TX10) (N := 26) hx hb hts (fun w h => List.mem_cons_of_mem _ (mfX100 w h)) hown hK hw hs.1 hs.2.1 rfl 4 (by decide) (hts _ (List.mem_cons_of_mem _ (mr3 _ (List.mem_of_getElem? (i := 14) rfl)))) (fun _ h => h) rfl (hs.2.2.1 4 rfl).1 dX10_cancel_47 ?_
          refine lv_iload_n hx hb dX10_cancel_50 rfl (lv_at hl 1 rfl) ?_
          refine q_bipush hx hb dX10_cancel_51 rfl ?_
          first | refine q_iadd hx hb dX10_cancel_53 ⟨by omega, by omega⟩ (fun x_9 lx_9 ux_9 ex_9 => ?_) | refine q_iaddw hx hb dX10_cancel_53 (fun x_9 lx_9 ux_9 ex_9 => ?_)
          refine q_iald hx hb hK hw (hs.2.2.1 4 rfl).2.1 1 (hs.2.2.1 4 rfl).2.2 rfl ⟨lx_9, ux_9⟩ (by omega) (by show _ < ((528 : Nat) : Int); omega) dX10_cancel_54 (fun x_10 lx_10 ux_10 ex_10 => ?_)
          refine q_iast hx hb hK hw (hs.2.2.1 4 rfl).2.1 1 (hs.2.2.1 4 rfl).2.2 rfl ⟨ly2_30, uy2_30⟩ (by omega) (by show _ < ((528 : Nat) : Int); omega) dX10_cancel_55 (fun H locs hw => ?_)
          obtain ⟨f_11, ef_11⟩ : ∃ g : Nat → va_E, g = aU fw30 (ad 4) y2_30 (iI x_10) := ⟨_, rfl⟩
          have t5_f_11 : fI f_11 a0 5 = fI fw30 a0 5 := by rw [ef_11]; exact hs.fI_aU rfl _ _
          have hE := hE.trans (show Kp a0 ad [4] [5, 10] fw30 f_11 by rw [ef_11]; exact Kp_aU hs rfl (by decide))
          have hs_ := hs
          have hs : MS cy L0 f_11 a0 ad := by rw [ef_11]; exact MS_aU hs rfl
          rw [← ef_11] at hw
          have fv : aI f_11 (ad 4) y2_30 = aI f0 (ad 4) (y2_30 + 44) := by
            have q := cb (y2_30 + 44) (by omega) (by omega)
            rw [ef_11]; exact Eq.trans (hs_.aI_self rfl ⟨by omega, by omega⟩) (Eq.trans ex_10 (Eq.trans (aI_cg (by omega)) q))
          have ca' : ∀ x : Int, 44 * x1 ≤ x → x < y2_30 + 1 → aI f_11 (ad 4) x = aI f0 (ad 4) (x + 44) := by
            intro x q0 q1
            by_cases ex : x = y2_30
            · rw [ex]; exact fv
            · exact Eq.trans (by rw [ef_11]; exact hs_.aI_nj rfl (by omega) (by omega) ex) (ca x q0 (by omega))
          have cb' : ∀ x : Int, 0 ≤ x → (x < 44 * x1 ∨ y2_30 + 1 ≤ x) → aI f_11 (ad 4) x = aI f0 (ad 4) x := fun x q0 q1 => Eq.trans (by rw [ef_11]; exact hs_.aI_nj rfl (by omega) q0 (by omega)) (cb x q0 (by omega))
          obtain ⟨x_12, lx_12, ux_12, hx_12, ex_12⟩ := q_inc y2_30 (1)
          try (replace ex_12 : x_12 = y2_30 + (1) := by omega)
          refine lv_iinc (v := iI x_12) (lv' := [(2, .int (iI x_12)), (0, .ref a0)]) hx hb dX10_cancel_56 hl (k := 1) rfl hx_12 (by decide) rfl (fun ls hl => ?_)
          refine lv_goto (tgt := 30) hx hb dX10_cancel_59 (by decide) ?_
          exact ih30 x_12 lx_12 ux_12 L0 f_11 hs hE (by omega) (by omega) (by first | (intro x q0 q1; exfalso; omega) | exact fun x q0 q1 => ca' x q0 (by omega) | fail "none") (by first | exact fun x _ _ => cb x | exact fun x q0 q1 => cb' x q0 (by omega) | fail "none") (by omega) _ _ _ hw (lv_sub hl [1, 0] rfl)
    exact J30 ((((2147483647 : Int) - x_6).toNat) + 1) x_6 lx_6 ux_6 L0 f_5 hs hE (by omega) (by omega) (by first | (intro x q0 q1; exfalso; omega) | exact fun x q0 q1 => ca' x q0 (by omega) | fail "none") (by first | exact fun x _ _ => cb x | exact fun x q0 q1 => cb' x q0 (by omega) | fail "none") (by omega) _ _ _ hw (lv_sub hl [1, 0] rfl)
  · refine q_iconst hx hb dX10_cancel_13 ?_
    exact q_ret_z hx hb hr hlocks hK hAe hw (by omega) (Nat.le_of_ble_eq_true rfl) (Nat.le_of_ble_eq_true rfl) dX10_cancel_14 (by exact ⟨rfl, hs, hE, hv.same (by omega) (fun x _ _ => cb x), Or.inl ⟨by omega, by omega, by omega, cb⟩⟩)
set_option maxHeartbeats 4000000 in
set_option maxRecDepth 100000 in
theorem c_X10_image_f {Z : Zt} (zo : Zok Z) (l : Launch) (D : va_G) (cy : Cy) (L0 : List Nat) (f0 : Nat → va_E) (a0 : Nat) (x1 : Int) (lx1 : -2147483648 ≤ x1) (ux1 : x1 ≤ 2147483647) (ad : Nat → Nat) (hs : MS cy L0 f0 a0 ad) (hv : MV f0 a0 ad) (hi : MI f0 a0 ad) : Ci Z l yX10_image (Cond.code yX10_image cX10_image 3 (some .boolean) :: TB) ({ frames := 1, cells := 0, slots := 0, locals := 22 } : Room) 0 0 D (tq cy) [.ref a0, .int (iI x1)] L0 f0 (fun (r : Int) (L1 : List Nat) (f1 : Nat → va_E) => L0 = L1 ∧ MS cy L0 f1 a0 ad ∧ Kp a0 ad [6, 7] [10] f0 f1 ∧ (MI f1 a0 ad ∧ ((r = 0 ∧ (x1 < 0 ∨ 1 < x1) ∧ (∀ x : Int, aI f1 (ad 6) x = aI f0 (ad 6) x) ∧ ∀ x : Int, aI f1 (ad 7) x = aI f0 (ad 7) x) ∨ (r = 1 ∧ 0 ≤ x1 ∧ x1 ≤ 1 ∧ aI f1 (ad 7) x1 = fI f0 a0 5 ∧ (∀ x : Int, 0 ≤ x → x ≠ x1 → aI f1 (ad 7) x = aI f0 (ad 7) x) ∧ (∀ j : Int, 0 ≤ j → j < 528 → aI f1 (ad 6) (528 * x1 + j) = aI f0 (ad 4) j) ∧ ∀ x : Int, 0 ≤ x → (x < 528 * x1 ∨ 528 * x1 + 528 ≤ x) → aI f1 (ad 6) x = aI f0 (ad 6) x)))) := by
  refine Ci.enter (cc := cX10_image) (n := 3) rfl (plainFor_of_name (by decide)) (Nat.le_of_ble_eq_true rfl) ?_
  intro p e s m below meth c ls A hx hb hr hts hown hlocks hnm hml hK hA hAe hw hZ hl
  have hown : s.vm.findClass RX10 = some m.cls := hown
  have hl : lv_has ls 3 [(0, .ref a0), (1, .int (iI x1))] := hl
  have hN : ZN s := (zo.2.2.2.2 _ _ _ hZ).2
  have hE : Kp a0 ad [6, 7] [10] f0 f0 := Kp.refl _ _ _ _ _
  refine lv_aload_n hx hb dX10_image_0 rfl (lv_at hl 0 rfl) ?_
  refine q_iconst hx hb dX10_image_1 ?_
  refine q_puti (ci := 8) (C := RX10) (T := TX10) (N := 26) hx hb hts (fun w h => List.mem_cons_of_mem _ (mfX100 w h)) hown hK hw hs.1 hs.2.1 rfl 10 (by decide) (hts _ (List.mem_cons_of_mem _ (mr4 _ (List.mem_of_getElem? (i := 19) rfl)))) (fun _ h => h) tyX10 tyX10_ok nmX10 rfl (ty := .int) (by decide +kernel) rfl rfl dX10_image_2 (fun H locs hw => ?_)
  obtain ⟨f_1, ef_1⟩ : ∃ g : Nat → va_E, g = pU f0 a0 10 (.int (iI 0)) := ⟨_, rfl⟩
  have v10_f_1 : fI f_1 a0 10 = 0 := by rw [ef_1]; exact fI_pU_self hs.2.1 rfl ⟨by decide, by decide⟩
  have t5_f_1 : fI f_1 a0 5 = fI f0 a0 5 := by rw [ef_1]; exact fI_pU (Or.inr (by decide))
  have hE := hE.trans (show Kp a0 ad [6, 7] [10] f0 f_1 by rw [ef_1]; exact Kp_pU hs (by decide))
  have hs_ := hs
  have hs : MS cy L0 f_1 a0 ad := by rw [ef_1]; exact MS_pU hs rfl
  rw [← ef_1] at hw
  have Q4 : aI f_1 (ad 4) = aI f0 (ad 4) := funext fun x => hE.1 4 rfl (by decide) x
  have hi1 : MI f_1 a0 ad := hi.kp (show Kp a0 ad [] [10] f0 f_1 by rw [ef_1]; exact Kp_pU hs_ (by decide)) (by decide) (by decide)
  have co : ∀ x : Int, aI f_1 (ad 6) x = aI f0 (ad 6) x := fun x => by rw [ef_1]; exact hs_.aI_pU _ _
  have c7 : ∀ x : Int, aI f_1 (ad 7) x = aI f0 (ad 7) x := fun x => by rw [ef_1]; exact hs_.aI_pU _ _
  refine lv_iload_n hx hb dX10_image_5 rfl (lv_at hl 1 rfl) ?_
  refine q_iconst hx hb dX10_image_6 ?_
  refine q_iconst hx hb dX10_image_7 ?_
  refine q_call_i hA hK hw (va_runS (As := [.int (iI x1), .int (iI 0), .int (iI 1)]) (rest := []) ⟨hx, hb, hml, hown, hts⟩ (c_X10_within zo l D cy L0 f_1 x1 lx1 ux1 0 (by decide) (by decide) 1 (by decide) (by decide) _) (va_cwS 3 hts (gT (inS (mr5 _ (List.mem_of_getElem? (i := 9) rfl)) (mr5 _ (List.mem_of_getElem? (i := 10) rfl)) (mr1 _ (List.mem_of_getElem? (i := 5) rfl)) (mr5 _ (List.mem_of_getElem? (i := 11) rfl)))) rfl rfl rfl (by decide +kernel) ⟨Nat.le_of_ble_eq_true rfl, Nat.le_of_ble_eq_true rfl⟩) (Wd.preS zo hA hZ hw hK) rfl rfl hl.1 rfl (lv_room (Nat.le_of_ble_eq_true rfl)) dX10_image_8 ⟨Nat.le_of_ble_eq_true rfl, Nat.le_of_ble_eq_true rfl⟩) (fun x_2 L1 f1 H locs lx_2 ux_2 ex_2 hw => ?_)
  obtain ⟨rfl, rfl, ex_2⟩ := ex_2
  refine q_if_ne (tgt := 16) hx hb dX10_image_11 (by decide) ⟨lx_2, ux_2⟩ (fun c11 => ?_) (fun c11 => ?_)
  · refine q_iconst hx hb dX10_image_16 ?_
    refine lv_istore_n (lv' := [(2, .int (iI 0)), (0, .ref a0), (1, .int (iI x1))]) hx hb dX10_image_17 rfl hl (by decide) rfl (fun ls hl => ?_)
    have J18 : ∀ (n18 : Nat) (y2_18 : Int) (ly2_18 : -2147483648 ≤ y2_18) (uy2_18 : y2_18 ≤ 2147483647) (L : List Nat) (fw18 : Nat → va_E) (hs : MS cy L0 fw18 a0 ad) (hE : Kp a0 ad [6, 7] [10] f0 fw18) (i1 : 0 ≤ y2_18) (i2 : y2_18 ≤ 528) (u5 : fI fw18 a0 5 = fI f0 a0 5) (cp : ∀ j : Int, 0 ≤ j → j < y2_18 → aI fw18 (ad 6) (528 * x1 + j) = aI f0 (ad 4) j) (co : ∀ x : Int, 0 ≤ x → (x < 528 * x1 ∨ 528 * x1 + 528 ≤ x) → aI fw18 (ad 6) x = aI f0 (ad 6) x) (c7 : ∀ x : Int, aI fw18 (ad 7) x = aI f0 (ad 7) x) (hn18 : ((2147483647 : Int) - y2_18).toNat < n18) (H : Heap) (locs : List Loc) (ls : Array Slot) (hw : Wd D A s.heap L0 fw18 H locs) (hl : lv_has ls 3 [(0, .ref a0), (1, .int (iI x1)), (2, .int (iI y2_18))]), W p l e ({ frames := 1, cells := 0, slots := 0, locals := 22 } : Room) s m ([.ref a0, .int (iI x1)] : List Value).toArray below meth c H locs (0 + 0) (0 + 0) (MQ below (Qi D (tq cy) L0 f0 s.heap.size (fun (r : Int) (L1 : List Nat) (f1 : Nat → va_E) => L0 = L1 ∧ MS cy L0 f1 a0 ad ∧ Kp a0 ad [6, 7] [10] f0 f1 ∧ (MI f1 a0 ad ∧ ((r = 0 ∧ (x1 < 0 ∨ 1 < x1) ∧ (∀ x : Int, aI f1 (ad 6) x = aI f0 (ad 6) x) ∧ ∀ x : Int, aI f1 (ad 7) x = aI f0 (ad 7) x) ∨ (r = 1 ∧ 0 ≤ x1 ∧ x1 ≤ 1 ∧ aI f1 (ad 7) x1 = fI f0 a0 5 ∧ (∀ x : Int, 0 ≤ x → x ≠ x1 → aI f1 (ad 7) x = aI f0 (ad 7) x) ∧ (∀ j : Int, 0 ≤ j → j < 528 → aI f1 (ad 6) (528 * x1 + j) = aI f0 (ad 4) j) ∧ ∀ x : Int, 0 ≤ x → (x < 528 * x1 ∨ 528 * x1 + 528 ≤ x) → aI f1 (ad 6) x = aI f0 (ad 6) x))))) ([.ref a0, .int (iI x1)] : List Value).toArray s 0 0 A) (F0 m 18 ls []) := by
      intro n18
      induction n18 with
      | zero => intro y2_18 ly2_18 uy2_18 L fw18 hs hE i1 i2 u5 cp co c7 hn18; exact absurd hn18 (Nat.not_lt_zero _)
      | succ n18 ih18 =>
        intro y2_18 ly2_18 uy2_18 L fw18 hs hE i1 i2 u5 cp co c7 hn18 H locs ls hw hl
        have Q4 : aI fw18 (ad 4) = aI f0 (ad 4) := funext fun x => hE.1 4 rfl (by decide) x
        refine lv_iload_n hx hb dX10_image_18 rfl (lv_at hl 2 rfl) ?_
        refine q_sipush hx hb dX10_image_19 rfl ?_
        refine q_icmp_ge (tgt := 49) hx hb dX10_image_22 (by decide) ⟨ly2_18, uy2_18⟩ ⟨by decide, by decide⟩ (fun c22 => ?_) (fun c22 => ?_)
        · refine lv_aload_n hx hb dX10_image_49 rfl (lv_at hl 0 rfl) ?_
          refine q_getr (ci := 8) (C := RX10) (T := TX10) (N := 26) hx hb hts (fun w h => List.mem_cons_of_mem _ (mfX100 w h)) hown hK hw hs.1 hs.2.1 rfl 7 (by decide) (hts _ (List.mem_cons_of_mem _ (mr3 _ (List.mem_of_getElem? (i := 16) rfl)))) (fun _ h => h) rfl (hs.2.2.1 7 rfl).1 dX10_image_50 ?_
          refine lv_iload_n hx hb dX10_image_53 rfl (lv_at hl 1 rfl) ?_
          refine lv_aload_n hx hb dX10_image_54 rfl (lv_at hl 0 rfl) ?_
          refine q_geti (ci := 8) (C := RX10) (T := TX10) (N := 26) hx hb hts (fun w h => List.mem_cons_of_mem _ (mfX100 w h)) hown hK hw hs.1 hs.2.1 rfl 5 (by decide) (hts _ (List.mem_cons_of_mem _ (mr19 _ (List.mem_of_getElem? (i := 1) rfl)))) (fun _ h => h) rfl dX10_image_55 (fun x_3 lx_3 ux_3 ex_3 => ?_)
          refine q_iast hx hb hK hw (hs.2.2.1 7 rfl).2.1 1 (hs.2.2.1 7 rfl).2.2 rfl ⟨lx1, ux1⟩ (by omega) (by show _ < ((2 : Nat) : Int); omega) dX10_image_58 (fun H locs hw => ?_)
          obtain ⟨f_4, ef_4⟩ : ∃ g : Nat → va_E, g = aU fw18 (ad 7) x1 (iI x_3) := ⟨_, rfl⟩
          have t5_f_4 : fI f_4 a0 5 = fI fw18 a0 5 := by rw [ef_4]; exact hs.fI_aU rfl _ _
          have hE := hE.trans (show Kp a0 ad [6, 7] [10] fw18 f_4 by rw [ef_4]; exact Kp_aU hs rfl (by decide))
          have hs_ := hs
          have hs : MS cy L0 f_4 a0 ad := by rw [ef_4]; exact MS_aU hs rfl
          rw [← ef_4] at hw
          have Q4 : aI f_4 (ad 4) = aI f0 (ad 4) := funext fun x => hE.1 4 rfl (by decide) x
          have hiz : MI f_4 a0 ad := hi.put (c := x1) (n := x_3) hv (by omega) (by omega) (by omega) (by rw [ef_4]; exact hs_.aI_self rfl ⟨by omega, by omega⟩) (fun x q0 q1 => Eq.trans (by rw [ef_4]; exact hs_.aI_nj rfl (by omega) q0 q1) (c7 x)) (fun j q0 q1 => Eq.trans (by rw [ef_4]; exact hs_.aI_ne rfl rfl (by decide) _) (cp j q0 (by omega))) (fun x q0 q1 => Eq.trans (by rw [ef_4]; exact hs_.aI_ne rfl rfl (by decide) _) (co x q0 q1))
          have v58 : aI f_4 (ad 7) x1 = x_3 := by rw [ef_4]; exact hs_.aI_self rfl ⟨by omega, by omega⟩
          have n58 : ∀ x : Int, 0 ≤ x → x ≠ x1 → aI f_4 (ad 7) x = aI f0 (ad 7) x := fun x q0 q1 => Eq.trans (by rw [ef_4]; exact hs_.aI_nj rfl (by omega) q0 q1) (c7 x)
          have p58 : ∀ j : Int, 0 ≤ j → j < 528 → aI f_4 (ad 6) (528 * x1 + j) = aI f0 (ad 4) j := fun j q0 q1 => Eq.trans (by rw [ef_4]; exact hs_.aI_ne rfl rfl (by decide) _) (cp j q0 (by omega))
          have o58 : ∀ x : Int, 0 ≤ x → (x < 528 * x1 ∨ 528 * x1 + 528 ≤ x) → aI f_4 (ad 6) x = aI f0 (ad 6) x := fun x q0 q1 => Eq.trans (by rw [ef_4]; exact hs_.aI_ne rfl rfl (by decide) _) (co x q0 q1)
          refine q_iconst hx hb dX10_image_59 ?_
          exact q_ret_z hx hb hr hlocks hK hAe hw (by omega) (Nat.le_of_ble_eq_true rfl) (Nat.le_of_ble_eq_true rfl) dX10_image_60 (by exact ⟨rfl, hs, hE, hiz, Or.inr ⟨by omega, by omega, by omega, by omega, n58, p58, o58⟩⟩)
        · refine lv_aload_n hx hb dX10_image_25 rfl (lv_at hl 0 rfl) ?_
          refine q_getr (ci := 8) (C := RX10) (T := TX10) (N := 26) hx hb hts (fun w h => List.mem_cons_of_mem _ (mfX100 w h)) hown hK hw hs.1 hs.2.1 rfl 6 (by decide) (hts _ (List.mem_cons_of_mem _ (mr3 _ (List.mem_of_getElem? (i := 15) rfl)))) (fun _ h => h) rfl (hs.2.2.1 6 rfl).1 dX10_image_26 ?_
          refine q_sipush hx hb dX10_image_29 rfl ?_
          refine lv_iload_n hx hb dX10_image_32 rfl (lv_at hl 1 rfl) ?_
          first | refine q_imul hx hb dX10_image_33 ⟨by omega, by omega⟩ (fun x_5 lx_5 ux_5 ex_5 => ?_) | refine q_imulw hx hb dX10_image_33 (fun x_5 lx_5 ux_5 ex_5 => ?_)
          refine lv_iload_n hx hb dX10_image_34 rfl (lv_at hl 2 rfl) ?_
          first | refine q_iadd hx hb dX10_image_35 ⟨by omega, by omega⟩ (fun x_6 lx_6 ux_6 ex_6 => ?_) | refine q_iaddw hx hb dX10_image_35 (fun x_6 lx_6 ux_6 ex_6 => ?_)
          refine lv_aload_n hx hb dX10_image_36 rfl (lv_at hl 0 rfl) ?_
          refine q_getr (ci := 8) (C := RX10) (T := TX10) (N := 26) hx hb hts (fun w h => List.mem_cons_of_mem _ (mfX100 w h)) hown hK hw hs.1 hs.2.1 rfl 4 (by decide) (hts _ (List.mem_cons_of_mem _ (mr3 _ (List.mem_of_getElem? (i := 14) rfl)))) (fun _ h => h) rfl (hs.2.2.1 4 rfl).1 dX10_image_37 ?_
          refine lv_iload_n hx hb dX10_image_40 rfl (lv_at hl 2 rfl) ?_
          refine q_iald hx hb hK hw (hs.2.2.1 4 rfl).2.1 1 (hs.2.2.1 4 rfl).2.2 rfl ⟨ly2_18, uy2_18⟩ (by omega) (by show _ < ((528 : Nat) : Int); omega) dX10_image_41 (fun x_7 lx_7 ux_7 ex_7 => ?_)
          have e41 : x_7 = aI f0 (ad 4) y2_18 := ex_7.trans (congrFun Q4 _)
          refine q_iast hx hb hK hw (hs.2.2.1 6 rfl).2.1 1 (hs.2.2.1 6 rfl).2.2 rfl ⟨lx_6, ux_6⟩ (by omega) (by show _ < ((1056 : Nat) : Int); omega) dX10_image_42 (fun H locs hw => ?_)
          obtain ⟨f_8, ef_8⟩ : ∃ g : Nat → va_E, g = aU fw18 (ad 6) x_6 (iI x_7) := ⟨_, rfl⟩
          have t5_f_8 : fI f_8 a0 5 = fI fw18 a0 5 := by rw [ef_8]; exact hs.fI_aU rfl _ _
          have hE := hE.trans (show Kp a0 ad [6, 7] [10] fw18 f_8 by rw [ef_8]; exact Kp_aU hs rfl (by decide))
          have hs_ := hs
          have hs : MS cy L0 f_8 a0 ad := by rw [ef_8]; exact MS_aU hs rfl
          rw [← ef_8] at hw
          have Q4 : aI f_8 (ad 4) = aI f0 (ad 4) := funext fun x => hE.1 4 rfl (by decide) x
          have v42 : aI f_8 (ad 6) (528 * x1 + y2_18) = aI f0 (ad 4) y2_18 := (aI_cg (show 528 * x1 + y2_18 = x_6 by omega)).trans (Eq.trans (by rw [ef_8]; exact hs_.aI_self rfl ⟨by omega, by omega⟩) e41)
          have cp' : ∀ j : Int, 0 ≤ j → j < y2_18 + 1 → aI f_8 (ad 6) (528 * x1 + j) = aI f0 (ad 4) j := by
            intro j q0 q1
            by_cases ej : j = y2_18
            · rw [ej]; exact v42
            · exact Eq.trans (by rw [ef_8]; exact hs_.aI_nj rfl (by omega) (by omega) (by omega)) (cp j q0 (by omega))
          have co' : ∀ x : Int, 0 ≤ x → (x < 528 * x1 ∨ 528 * x1 + 528 ≤ x) → aI f_8 (ad 6) x = aI f0 (ad 6) x := fun x q0 q1 => Eq.trans (by rw [ef_8]; exact hs_.aI_nj rfl (by omega) q0 (by omega)) (co x q0 q1)
          have c7' : ∀ x : Int, aI f_8 (ad 7) x = aI f0 (ad 7) x := fun x => Eq.trans (by rw [ef_8]; exact hs_.aI_ne rfl rfl (by decide) _) (c7 x)
          obtain ⟨x_9, lx_9, ux_9, hx_9, ex_9⟩ := q_inc y2_18 (1)
          try (replace ex_9 : x_9 = y2_18 + (1) := by omega)
          refine lv_iinc (v := iI x_9) (lv' := [(2, .int (iI x_9)), (0, .ref a0), (1, .int (iI x1))]) hx hb dX10_image_43 hl (k := 2) rfl hx_9 (by decide) rfl (fun ls hl => ?_)
          refine lv_goto (tgt := 18) hx hb dX10_image_46 (by decide) ?_
          exact ih18 x_9 lx_9 ux_9 L0 f_8 hs hE (by omega) (by omega) (by omega) (by first | (intro j q0 q1; exfalso; omega) | exact fun j q0 q1 => cp' j q0 (by omega) | fail "none") (by first | exact fun x _ _ => co x | exact co' | fail "none") (by first | exact c7' | exact c7 | fail "none") (by omega) _ _ _ hw (lv_sub hl [1, 2, 0] rfl)
    exact J18 ((((2147483647 : Int) - 0).toNat) + 1) 0 (by decide) (by decide) L0 f_1 hs hE (by omega) (by omega) (by omega) (by first | (intro j q0 q1; exfalso; omega) | exact fun j q0 q1 => cp' j q0 (by omega) | fail "none") (by first | exact fun x _ _ => co x | exact co' | fail "none") (by first | exact c7' | exact c7 | fail "none") (by omega) _ _ _ hw (lv_sub hl [1, 2, 0] rfl)
  · refine q_iconst hx hb dX10_image_14 ?_
    exact q_ret_z hx hb hr hlocks hK hAe hw (by omega) (Nat.le_of_ble_eq_true rfl) (Nat.le_of_ble_eq_true rfl) dX10_image_15 (by exact ⟨rfl, hs, hE, hi1, Or.inl ⟨by omega, by omega, co, c7⟩⟩)
set_option maxHeartbeats 4000000 in
set_option maxRecDepth 100000 in
theorem c_X10_back_f {Z : Zt} (zo : Zok Z) (l : Launch) (D : va_G) (cy : Cy) (L0 : List Nat) (f0 : Nat → va_E) (a0 : Nat) (x1 : Int) (lx1 : -2147483648 ≤ x1) (ux1 : x1 ≤ 2147483647) (ad : Nat → Nat) (hs : MS cy L0 f0 a0 ad) (hv : MV f0 a0 ad) (hi : MI f0 a0 ad) : Ci Z l yX10_back (Cond.code yX10_back cX10_back 3 (some .boolean) :: TB) ({ frames := 1, cells := 0, slots := 0, locals := 22 } : Room) 0 0 D (tq cy) [.ref a0, .int (iI x1)] L0 f0 (fun (r : Int) (L1 : List Nat) (f1 : Nat → va_E) => L0 = L1 ∧ MS cy L0 f1 a0 ad ∧ Kp a0 ad [4] [5, 10] f0 f1 ∧ (MV f1 a0 ad ∧ ((r = 0 ∧ (x1 < 0 ∨ 1 < x1 ∨ aI f0 (ad 7) x1 < 0) ∧ fI f1 a0 5 = fI f0 a0 5 ∧ ∀ x : Int, aI f1 (ad 4) x = aI f0 (ad 4) x) ∨ (r = 1 ∧ 0 ≤ x1 ∧ x1 ≤ 1 ∧ 0 ≤ aI f0 (ad 7) x1 ∧ fI f1 a0 5 = aI f0 (ad 7) x1 ∧ ∀ j : Int, 0 ≤ j → j < 528 → aI f1 (ad 4) j = aI f0 (ad 6) (528 * x1 + j))))) := by
  refine Ci.enter (cc := cX10_back) (n := 3) rfl (plainFor_of_name (by decide)) (Nat.le_of_ble_eq_true rfl) ?_
  intro p e s m below meth c ls A hx hb hr hts hown hlocks hnm hml hK hA hAe hw hZ hl
  have hown : s.vm.findClass RX10 = some m.cls := hown
  have hl : lv_has ls 3 [(0, .ref a0), (1, .int (iI x1))] := hl
  have hN : ZN s := (zo.2.2.2.2 _ _ _ hZ).2
  have hE : Kp a0 ad [4] [5, 10] f0 f0 := Kp.refl _ _ _ _ _
  refine lv_aload_n hx hb dX10_back_0 rfl (lv_at hl 0 rfl) ?_
  refine q_iconst hx hb dX10_back_1 ?_
  refine q_puti (ci := 8) (C := RX10) (T := TX10) (N := 26) hx hb hts (fun w h => List.mem_cons_of_mem _ (mfX100 w h)) hown hK hw hs.1 hs.2.1 rfl 10 (by decide) (hts _ (List.mem_cons_of_mem _ (mr4 _ (List.mem_of_getElem? (i := 19) rfl)))) (fun _ h => h) tyX10 tyX10_ok nmX10 rfl (ty := .int) (by decide +kernel) rfl rfl dX10_back_2 (fun H locs hw => ?_)
  obtain ⟨f_1, ef_1⟩ : ∃ g : Nat → va_E, g = pU f0 a0 10 (.int (iI 0)) := ⟨_, rfl⟩
  have v10_f_1 : fI f_1 a0 10 = 0 := by rw [ef_1]; exact fI_pU_self hs.2.1 rfl ⟨by decide, by decide⟩
  have t5_f_1 : fI f_1 a0 5 = fI f0 a0 5 := by rw [ef_1]; exact fI_pU (Or.inr (by decide))
  have hE := hE.trans (show Kp a0 ad [4] [5, 10] f0 f_1 by rw [ef_1]; exact Kp_pU hs (by decide))
  have hs_ := hs
  have hs : MS cy L0 f_1 a0 ad := by rw [ef_1]; exact MS_pU hs rfl
  rw [← ef_1] at hw
  have Q6 : aI f_1 (ad 6) = aI f0 (ad 6) := funext fun x => hE.1 6 rfl (by decide) x
  have Q7 : aI f_1 (ad 7) = aI f0 (ad 7) := funext fun x => hE.1 7 rfl (by decide) x
  have hv1 : MV f_1 a0 ad := hv.kp (show Kp a0 ad [] [10] f0 f_1 by rw [ef_1]; exact Kp_pU hs_ (by decide)) (by decide) (by decide)
  have q4 : ∀ x : Int, aI f_1 (ad 4) x = aI f0 (ad 4) x := fun x => by rw [ef_1]; exact hs_.aI_pU _ _
  refine lv_iload_n hx hb dX10_back_5 rfl (lv_at hl 1 rfl) ?_
  refine q_iconst hx hb dX10_back_6 ?_
  refine q_iconst hx hb dX10_back_7 ?_
  refine q_call_i hA hK hw (va_runS (As := [.int (iI x1), .int (iI 0), .int (iI 1)]) (rest := []) ⟨hx, hb, hml, hown, hts⟩ (c_X10_within zo l D cy L0 f_1 x1 lx1 ux1 0 (by decide) (by decide) 1 (by decide) (by decide) _) (va_cwS 3 hts (gT (inS (mr5 _ (List.mem_of_getElem? (i := 9) rfl)) (mr5 _ (List.mem_of_getElem? (i := 10) rfl)) (mr1 _ (List.mem_of_getElem? (i := 5) rfl)) (mr5 _ (List.mem_of_getElem? (i := 11) rfl)))) rfl rfl rfl (by decide +kernel) ⟨Nat.le_of_ble_eq_true rfl, Nat.le_of_ble_eq_true rfl⟩) (Wd.preS zo hA hZ hw hK) rfl rfl hl.1 rfl (lv_room (Nat.le_of_ble_eq_true rfl)) dX10_back_8 ⟨Nat.le_of_ble_eq_true rfl, Nat.le_of_ble_eq_true rfl⟩) (fun x_2 L1 f1 H locs lx_2 ux_2 ex_2 hw => ?_)
  obtain ⟨rfl, rfl, ex_2⟩ := ex_2
  refine q_if_eq (tgt := 23) hx hb dX10_back_11 (by decide) ⟨lx_2, ux_2⟩ (fun c11 => ?_) (fun c11 => ?_)
  · refine q_iconst hx hb dX10_back_23 ?_
    exact q_ret_z hx hb hr hlocks hK hAe hw (by omega) (Nat.le_of_ble_eq_true rfl) (Nat.le_of_ble_eq_true rfl) dX10_back_24 (by exact ⟨rfl, hs, hE, hv1, Or.inl ⟨by omega, by omega, by omega, q4⟩⟩)
  · refine lv_aload_n hx hb dX10_back_14 rfl (lv_at hl 0 rfl) ?_
    refine q_getr (ci := 8) (C := RX10) (T := TX10) (N := 26) hx hb hts (fun w h => List.mem_cons_of_mem _ (mfX100 w h)) hown hK hw hs.1 hs.2.1 rfl 7 (by decide) (hts _ (List.mem_cons_of_mem _ (mr3 _ (List.mem_of_getElem? (i := 16) rfl)))) (fun _ h => h) rfl (hs.2.2.1 7 rfl).1 dX10_back_15 ?_
    refine lv_iload_n hx hb dX10_back_18 rfl (lv_at hl 1 rfl) ?_
    refine q_iald hx hb hK hw (hs.2.2.1 7 rfl).2.1 1 (hs.2.2.1 7 rfl).2.2 rfl ⟨lx1, ux1⟩ (by omega) (by show _ < ((2 : Nat) : Int); omega) dX10_back_19 (fun x_3 lx_3 ux_3 ex_3 => ?_)
    have e19 : x_3 = aI f0 (ad 7) x1 := ex_3.trans (congrFun Q7 _)
    refine q_if_ge (tgt := 25) hx hb dX10_back_20 (by decide) ⟨lx_3, ux_3⟩ (fun c20 => ?_) (fun c20 => ?_)
    · refine q_iconst hx hb dX10_back_25 ?_
      refine lv_istore_n (lv' := [(2, .int (iI 0)), (0, .ref a0), (1, .int (iI x1))]) hx hb dX10_back_26 rfl hl (by decide) rfl (fun ls hl => ?_)
      have J27 : ∀ (n27 : Nat) (y2_27 : Int) (ly2_27 : -2147483648 ≤ y2_27) (uy2_27 : y2_27 ≤ 2147483647) (L : List Nat) (fw27 : Nat → va_E) (hs : MS cy L0 fw27 a0 ad) (hE : Kp a0 ad [4] [5, 10] f0 fw27) (i1 : 0 ≤ y2_27) (i2 : y2_27 ≤ 528) (cp : ∀ j : Int, 0 ≤ j → j < y2_27 → aI fw27 (ad 4) j = aI f0 (ad 6) (528 * x1 + j)) (hn27 : ((2147483647 : Int) - y2_27).toNat < n27) (H : Heap) (locs : List Loc) (ls : Array Slot) (hw : Wd D A s.heap L0 fw27 H locs) (hl : lv_has ls 3 [(0, .ref a0), (1, .int (iI x1)), (2, .int (iI y2_27))]), W p l e ({ frames := 1, cells := 0, slots := 0, locals := 22 } : Room) s m ([.ref a0, .int (iI x1)] : List Value).toArray below meth c H locs (0 + 0) (0 + 0) (MQ below (Qi D (tq cy) L0 f0 s.heap.size (fun (r : Int) (L1 : List Nat) (f1 : Nat → va_E) => L0 = L1 ∧ MS cy L0 f1 a0 ad ∧ Kp a0 ad [4] [5, 10] f0 f1 ∧ (MV f1 a0 ad ∧ ((r = 0 ∧ (x1 < 0 ∨ 1 < x1 ∨ aI f0 (ad 7) x1 < 0) ∧ fI f1 a0 5 = fI f0 a0 5 ∧ ∀ x : Int, aI f1 (ad 4) x = aI f0 (ad 4) x) ∨ (r = 1 ∧ 0 ≤ x1 ∧ x1 ≤ 1 ∧ 0 ≤ aI f0 (ad 7) x1 ∧ fI f1 a0 5 = aI f0 (ad 7) x1 ∧ ∀ j : Int, 0 ≤ j → j < 528 → aI f1 (ad 4) j = aI f0 (ad 6) (528 * x1 + j)))))) ([.ref a0, .int (iI x1)] : List Value).toArray s 0 0 A) (F0 m 27 ls []) := by
        intro n27
        induction n27 with
        | zero => intro y2_27 ly2_27 uy2_27 L fw27 hs hE i1 i2 cp hn27; exact absurd hn27 (Nat.not_lt_zero _)
        | succ n27 ih27 =>
          intro y2_27 ly2_27 uy2_27 L fw27 hs hE i1 i2 cp hn27 H locs ls hw hl
          have Q6 : aI fw27 (ad 6) = aI f0 (ad 6) := funext fun x => hE.1 6 rfl (by decide) x
          have Q7 : aI fw27 (ad 7) = aI f0 (ad 7) := funext fun x => hE.1 7 rfl (by decide) x
          refine lv_iload_n hx hb dX10_back_27 rfl (lv_at hl 2 rfl) ?_
          refine q_sipush hx hb dX10_back_28 rfl ?_
          refine q_icmp_ge (tgt := 58) hx hb dX10_back_31 (by decide) ⟨ly2_27, uy2_27⟩ ⟨by decide, by decide⟩ (fun c31 => ?_) (fun c31 => ?_)
          · refine lv_aload_n hx hb dX10_back_58 rfl (lv_at hl 0 rfl) ?_
            refine lv_aload_n hx hb dX10_back_59 rfl (lv_at hl 0 rfl) ?_
            refine q_getr (ci := 8) (C := RX10) (T := TX10) (N := 26) hx hb hts (fun w h => List.mem_cons_of_mem _ (mfX100 w h)) hown hK hw hs.1 hs.2.1 rfl 7 (by decide) (hts _ (List.mem_cons_of_mem _ (mr3 _ (List.mem_of_getElem? (i := 16) rfl)))) (fun _ h => h) rfl (hs.2.2.1 7 rfl).1 dX10_back_60 ?_
            refine lv_iload_n hx hb dX10_back_63 rfl (lv_at hl 1 rfl) ?_
            refine q_iald hx hb hK hw (hs.2.2.1 7 rfl).2.1 1 (hs.2.2.1 7 rfl).2.2 rfl ⟨lx1, ux1⟩ (by omega) (by show _ < ((2 : Nat) : Int); omega) dX10_back_64 (fun x_4 lx_4 ux_4 ex_4 => ?_)
            have e64 : x_4 = aI f0 (ad 7) x1 := ex_4.trans (congrFun Q7 _)
            refine q_puti (ci := 8) (C := RX10) (T := TX10) (N := 26) hx hb hts (fun w h => List.mem_cons_of_mem _ (mfX100 w h)) hown hK hw hs.1 hs.2.1 rfl 5 (by decide) (hts _ (List.mem_cons_of_mem _ (mr19 _ (List.mem_of_getElem? (i := 1) rfl)))) (fun _ h => h) tyX10 tyX10_ok nmX10 rfl (ty := .int) (by decide +kernel) rfl rfl dX10_back_65 (fun H locs hw => ?_)
            obtain ⟨f_5, ef_5⟩ : ∃ g : Nat → va_E, g = pU fw27 a0 5 (.int (iI x_4)) := ⟨_, rfl⟩
            have v5_f_5 : fI f_5 a0 5 = x_4 := by rw [ef_5]; exact fI_pU_self hs.2.1 rfl ⟨lx_4, ux_4⟩
            have hE := hE.trans (show Kp a0 ad [4] [5, 10] fw27 f_5 by rw [ef_5]; exact Kp_pU hs (by decide))
            have hs_ := hs
            have hs : MS cy L0 f_5 a0 ad := by rw [ef_5]; exact MS_pU hs rfl
            rw [← ef_5] at hw
            have Q6 : aI f_5 (ad 6) = aI f0 (ad 6) := funext fun x => hE.1 6 rfl (by decide) x
            have Q7 : aI f_5 (ad 7) = aI f0 (ad 7) := funext fun x => hE.1 7 rfl (by decide) x
            have hvz : MV f_5 a0 ad := hi.get (c := x1) (by omega) (by omega) (by omega) (v5_f_5.trans e64) (fun j q0 q1 => Eq.trans (by rw [ef_5]; exact hs_.aI_pU _ _) (cp j q0 (by omega)))
            have p65 : ∀ j : Int, 0 ≤ j → j < 528 → aI f_5 (ad 4) j = aI f0 (ad 6) (528 * x1 + j) := fun j q0 q1 => Eq.trans (by rw [ef_5]; exact hs_.aI_pU _ _) (cp j q0 (by omega))
            have m65 := v5_f_5.trans e64
            refine q_iconst hx hb dX10_back_68 ?_
            exact q_ret_z hx hb hr hlocks hK hAe hw (by omega) (Nat.le_of_ble_eq_true rfl) (Nat.le_of_ble_eq_true rfl) dX10_back_69 (by exact ⟨rfl, hs, hE, hvz, Or.inr ⟨by omega, by omega, by omega, by omega, m65, p65⟩⟩)
          · refine lv_aload_n hx hb dX10_back_34 rfl (lv_at hl 0 rfl) ?_
            refine q_getr (ci := 8) (C := RX10) (T := TX10) (N := 26) hx hb hts (fun w h => List.mem_cons_of_mem _ (mfX100 w h)) hown hK hw hs.1 hs.2.1 rfl 4 (by decide) (hts _ (List.mem_cons_of_mem _ (mr3 _ (List.mem_of_getElem? (i := 14) rfl)))) (fun _ h => h) rfl (hs.2.2.1 4 rfl).1 dX10_back_35 ?_
            refine lv_iload_n hx hb dX10_back_38 rfl (lv_at hl 2 rfl) ?_
            refine lv_aload_n hx hb dX10_back_39 rfl (lv_at hl 0 rfl) ?_
            refine q_getr (ci := 8) (C := RX10) (T := TX10) (N := 26) hx hb hts (fun w h => List.mem_cons_of_mem _ (mfX100 w h)) hown hK hw hs.1 hs.2.1 rfl 6 (by decide) (hts _ (List.mem_cons_of_mem _ (mr3 _ (List.mem_of_getElem? (i := 15) rfl)))) (fun _ h => h) rfl (hs.2.2.1 6 rfl).1 dX10_back_40 ?_
            refine q_sipush hx hb dX10_back_43 rfl ?_
            refine lv_iload_n hx hb dX10_back_46 rfl (lv_at hl 1 rfl) ?_
            first | refine q_imul hx hb dX10_back_47 ⟨by omega, by omega⟩ (fun x_6 lx_6 ux_6 ex_6 => ?_) | refine q_imulw hx hb dX10_back_47 (fun x_6 lx_6 ux_6 ex_6 => ?_)
            refine lv_iload_n hx hb dX10_back_48 rfl (lv_at hl 2 rfl) ?_
            first | refine q_iadd hx hb dX10_back_49 ⟨by omega, by omega⟩ (fun x_7 lx_7 ux_7 ex_7 => ?_) | refine q_iaddw hx hb dX10_back_49 (fun x_7 lx_7 ux_7 ex_7 => ?_)
            refine q_iald hx hb hK hw (hs.2.2.1 6 rfl).2.1 1 (hs.2.2.1 6 rfl).2.2 rfl ⟨lx_7, ux_7⟩ (by omega) (by show _ < ((1056 : Nat) : Int); omega) dX10_back_50 (fun x_8 lx_8 ux_8 ex_8 => ?_)
            have e50 : x_8 = aI f0 (ad 6) (528 * x1 + y2_27) := ex_8.trans ((congrFun Q6 _).trans (aI_cg (by omega)))
            refine q_iast hx hb hK hw (hs.2.2.1 4 rfl).2.1 1 (hs.2.2.1 4 rfl).2.2 rfl ⟨ly2_27, uy2_27⟩ (by omega) (by show _ < ((528 : Nat) : Int); omega) dX10_back_51 (fun H locs hw => ?_)
            obtain ⟨f_9, ef_9⟩ : ∃ g : Nat → va_E, g = aU fw27 (ad 4) y2_27 (iI x_8) := ⟨_, rfl⟩
            have t5_f_9 : fI f_9 a0 5 = fI fw27 a0 5 := by rw [ef_9]; exact hs.fI_aU rfl _ _
            have hE := hE.trans (show Kp a0 ad [4] [5, 10] fw27 f_9 by rw [ef_9]; exact Kp_aU hs rfl (by decide))
            have hs_ := hs
            have hs : MS cy L0 f_9 a0 ad := by rw [ef_9]; exact MS_aU hs rfl
            rw [← ef_9] at hw
            have Q6 : aI f_9 (ad 6) = aI f0 (ad 6) := funext fun x => hE.1 6 rfl (by decide) x
            have Q7 : aI f_9 (ad 7) = aI f0 (ad 7) := funext fun x => hE.1 7 rfl (by decide) x
            have v51 : aI f_9 (ad 4) y2_27 = aI f0 (ad 6) (528 * x1 + y2_27) := Eq.trans (by rw [ef_9]; exact hs_.aI_self rfl ⟨by omega, by omega⟩) e50
            have cp' : ∀ j : Int, 0 ≤ j → j < y2_27 + 1 → aI f_9 (ad 4) j = aI f0 (ad 6) (528 * x1 + j) := by
              intro j q0 q1
              by_cases ej : j = y2_27
              · rw [ej]; exact v51
              · exact Eq.trans (by rw [ef_9]; exact hs_.aI_nj rfl (by omega) (by omega) (by omega)) (cp j q0 (by omega))
            obtain ⟨x_10, lx_10, ux_10, hx_10, ex_10⟩ := q_inc y2_27 (1)
            try (replace ex_10 : x_10 = y2_27 + (1) := by omega)
            refine lv_iinc (v := iI x_10) (lv' := [(2, .int (iI x_10)), (0, .ref a0), (1, .int (iI x1))]) hx hb dX10_back_52 hl (k := 2) rfl hx_10 (by decide) rfl (fun ls hl => ?_)
            refine lv_goto (tgt := 27) hx hb dX10_back_55 (by decide) ?_
            exact ih27 x_10 lx_10 ux_10 L0 f_9 hs hE (by omega) (by omega) (by first | (intro j q0 q1; exfalso; omega) | exact fun j q0 q1 => cp' j q0 (by omega) | fail "none") (by omega) _ _ _ hw (lv_sub hl [1, 2, 0] rfl)
      exact J27 ((((2147483647 : Int) - 0).toNat) + 1) 0 (by decide) (by decide) L0 f_1 hs hE (by omega) (by omega) (by first | (intro j q0 q1; exfalso; omega) | exact fun j q0 q1 => cp' j q0 (by omega) | fail "none") (by omega) _ _ _ hw (lv_sub hl [1, 2, 0] rfl)
    · refine q_iconst hx hb dX10_back_23 ?_
      exact q_ret_z hx hb hr hlocks hK hAe hw (by omega) (Nat.le_of_ble_eq_true rfl) (Nat.le_of_ble_eq_true rfl) dX10_back_24 (by exact ⟨rfl, hs, hE, hv1, Or.inl ⟨by omega, by omega, by omega, q4⟩⟩)
