set_option maxHeartbeats 4000000 in
set_option maxRecDepth 100000 in
theorem c_X10_cancel_f {Z : Zt} (zo : Zok Z) (l : Launch) (D : va_G) (cy : Cy) (L0 : List Nat) (f0 : Nat → va_E) (a0 : Nat) (x1 : Int) (lx1 : -2147483648 ≤ x1) (ux1 : x1 ≤ 2147483647) (ad : Nat → Nat) (hs : MS cy L0 f0 a0 ad) (hv : MV f0 a0 ad) : Ci Z l yX10_cancel (Cond.code yX10_cancel cX10_cancel 3 (some .boolean) :: TB) ({ frames := 2, cells := 0, slots := 0, locals := 43 } : Room) 0 0 D (tq cy) [.ref a0, .int (iI x1)] L0 f0 (fun (r : Int) (L1 : List Nat) (f1 : Nat → va_E) => L0 = L1 ∧ MS cy L0 f1 a0 ad ∧ Kp a0 ad [4] [5, 10] f0 f1 ∧ (MV f1 a0 ad ∧ ((r = 0 ∧ (x1 < 0 ∨ fI f0 a0 5 ≤ x1) ∧ fI f1 a0 5 = fI f0 a0 5 ∧ ∀ x : Int, aI f1 (ad 4) x = aI f0 (ad 4) x) ∨ (r = 1 ∧ 0 ≤ x1 ∧ x1 < fI f0 a0 5 ∧ fI f1 a0 5 = fI f0 a0 5 - 1 ∧ (∀ x : Int, 0 ≤ x → x < 44 * x1 → aI f1 (ad 4) x = aI f0 (ad 4) x) ∧ (∀ x : Int, 44 * x1 ≤ x → x < 44 * (fI f0 a0 5 - 1) → aI f1 (ad 4) x = aI f0 (ad 4) (x + 44)))))) := by
  refine Ci.enter (cc := cX10_cancel) (n := 3) rfl (plainFor_of_name (by decide)) (Nat.le_of_ble_eq_true rfl) ?_
  intro p e s m below meth c ls A hx hb hr hts hown hlocks hnm hml hK hA hAe hw hZ hl
  have hown : s.vm.findClass RX10 = some m.cls := hown
  have hl : lv_has ls 3 [(0, .ref a0), (1, .int (iI x1))] := hl
  have hN : ZN s := (zo.2.2.2.2 _ _ _ hZ).2
  have hE : Kp a0 ad [4] [5, 10] f0 f0 := Kp.refl _ _ _ _ _
  have m5 := hv.1
  have m6 := hv.2.1
  have cb : ∀ x : Int, aI f0 (ad 4) x = aI f0 (ad 4) x := fun _ => rfl
  refine lv_aload_n hx hb dX10_cancel_0 rfl (lv_at hl 0 rfl) ?_
  refine q_iconst hx hb dX10_cancel_1 ?_
  refine q_puti (ci := 8) (C := RX10) (T := TX10) (N := 26) hx hb hts (fun w h => List.mem_cons_of_mem _ (mfX100 w h)) hown hK hw hs.1 hs.2.1 rfl 10 (by decide) (hts _ (List.mem_cons_of_mem _ (mr4 _ (List.mem_of_getElem? (i := 19) rfl)))) (fun _ h => h) tyX10 tyX10_ok nmX10 rfl (ty := .int) (by decide +kernel) rfl rfl dX10_cancel_2 (fun H locs hw => ?_)
  obtain ⟨f_1, ef_1⟩ : ∃ g : Nat → va_E, g = pU f0 a0 10 (.int (iI 0)) := ⟨_, rfl⟩
  have v10_f_1 : fI f_1 a0 10 = 0 := by rw [ef_1]; exact fI_pU_self hs.2.1 rfl ⟨by decide, by decide⟩
  have t5_f_1 : fI f_1 a0 5 = fI f0 a0 5 := by rw [ef_1]; exact fI_pU (Or.inr (by decide))
  have hE := hE.trans (show Kp a0 ad [4] [5, 10] f0 f_1 by rw [ef_1]; exact Kp_pU hs (by decide))
  have hs_ := hs
  have hs : MS cy L0 f_1 a0 ad := by rw [ef_1]; exact MS_pU hs rfl
  rw [← ef_1] at hw
  have cb : ∀ x : Int, aI f_1 (ad 4) x = aI f0 (ad 4) x := fun x => Eq.trans (by rw [ef_1]; exact hs_.aI_pU _ _) (cb x)
  refine lv_aload_n hx hb dX10_cancel_5 rfl (lv_at hl 0 rfl) ?_
  refine lv_iload_n hx hb dX10_cancel_6 rfl (lv_at hl 1 rfl) ?_
  refine q_call_i hA hK hw (va_runV (As := [.int (iI x1)]) (rest := []) ⟨hx, hb, hml, hown, hts⟩ (c_X10_isBooking zo l D cy L0 f_1 a0 x1 lx1 ux1 ad hs (by omega) _) (cwV 1 hts (gT (inV (mr22 _ (List.mem_of_getElem? (i := 21) rfl)) (mr22 _ (List.mem_of_getElem? (i := 22) rfl)) (mr22 _ (List.mem_of_getElem? (i := 23) rfl)) (mr1 _ (List.mem_of_getElem? (i := 5) rfl)) (mr23 _ (List.mem_of_getElem? (i := 0) rfl)))) rfl rfl rfl (by decide +kernel) ⟨Nat.le_of_ble_eq_true rfl, Nat.le_of_ble_eq_true rfl⟩) (Wd.preV zo hA hZ hw hK hs.1 hs.2.1 rfl) rfl rfl hl.1 rfl (lv_room (Nat.le_of_ble_eq_true rfl)) dX10_cancel_7 ⟨Nat.le_of_ble_eq_true rfl, Nat.le_of_ble_eq_true rfl⟩) (fun x_2 L1 f1 H locs lx_2 ux_2 ex_2 hw => ?_)
  obtain ⟨rfl, rfl, ex_2⟩ := ex_2
  refine q_if_ne (tgt := 15) hx hb dX10_cancel_10 (by decide) ⟨lx_2, ux_2⟩ (fun c10 => ?_) (fun c10 => ?_)
  · refine lv_aload_n hx hb dX10_cancel_15 rfl (lv_at hl 0 rfl) ?_
    refine lv_dup hx hb dX10_cancel_16 rfl ?_
    refine q_geti (ci := 8) (C := RX10) (T := TX10) (N := 26) hx hb hts (fun w h => List.mem_cons_of_mem _ (mfX100 w h)) hown hK hw hs.1 hs.2.1 rfl 5 (by decide) (hts _ (List.mem_cons_of_mem _ (mr19 _ (List.mem_of_getElem? (i := 1) rfl)))) (fun _ h => h) rfl dX10_cancel_17 (fun x_3 lx_3 ux_3 ex_3 => ?_)
    refine q_iconst hx hb dX10_cancel_20 ?_
    first | refine q_isub hx hb dX10_cancel_21 ⟨by omega, by omega⟩ (fun x_4 lx_4 ux_4 ex_4 => ?_) | refine q_isubw hx hb dX10_cancel_21 (fun x_4 lx_4 ux_4 ex_4 => ?_)
    refine q_puti (ci := 8) (C := RX10) (T := TX10) (N := 26) hx hb hts (fun w h => List.mem_cons_of_mem _ (mfX100 w h)) hown hK hw hs.1 hs.2.1 rfl 5 (by decide) (hts _ (List.mem_cons_of_mem _ (mr19 _ (List.mem_of_getElem? (i := 1) rfl)))) (fun _ h => h) tyX10 tyX10_ok nmX10 rfl (ty := .int) (by decide +kernel) rfl rfl dX10_cancel_22 (fun H locs hw => ?_)
    obtain ⟨f_5, ef_5⟩ : ∃ g : Nat → va_E, g = pU f_1 a0 5 (.int (iI x_4)) := ⟨_, rfl⟩
    have v5_f_5 : fI f_5 a0 5 = x_4 := by rw [ef_5]; exact fI_pU_self hs.2.1 rfl ⟨lx_4, ux_4⟩
    have hE := hE.trans (show Kp a0 ad [4] [5, 10] f_1 f_5 by rw [ef_5]; exact Kp_pU hs (by decide))
    have hs_ := hs
    have hs : MS cy L0 f_5 a0 ad := by rw [ef_5]; exact MS_pU hs rfl
    rw [← ef_5] at hw
    have cb : ∀ x : Int, aI f_5 (ad 4) x = aI f0 (ad 4) x := fun x => Eq.trans (by rw [ef_5]; exact hs_.aI_pU _ _) (cb x)
    refine q_bipush hx hb dX10_cancel_25 rfl ?_
    refine lv_iload_n hx hb dX10_cancel_27 rfl (lv_at hl 1 rfl) ?_
    first | refine q_imul hx hb dX10_cancel_28 ⟨by omega, by omega⟩ (fun x_6 lx_6 ux_6 ex_6 => ?_) | refine q_imulw hx hb dX10_cancel_28 (fun x_6 lx_6 ux_6 ex_6 => ?_)
    refine lv_istore_n (lv' := [(2, .int (iI x_6)), (0, .ref a0), (1, .int (iI x1))]) hx hb dX10_cancel_29 rfl hl (by decide) rfl (fun ls hl => ?_)
    have J30 : ∀ (n30 : Nat) (y2_30 : Int) (ly2_30 : -2147483648 ≤ y2_30) (uy2_30 : y2_30 ≤ 2147483647) (L : List Nat) (fw30 : Nat → va_E) (hs : MS cy L0 fw30 a0 ad) (hE : Kp a0 ad [4] [5, 10] f0 fw30) (i1 : 44 * x1 ≤ y2_30) (i2 : fI fw30 a0 5 = fI f0 a0 5 - 1) (ca : ∀ x : Int, 44 * x1 ≤ x → x < y2_30 → aI fw30 (ad 4) x = aI f0 (ad 4) (x + 44)) (cb : ∀ x : Int, 0 ≤ x → (x < 44 * x1 ∨ y2_30 ≤ x) → aI fw30 (ad 4) x = aI f0 (ad 4) x) (hn30 : ((2147483647 : Int) - y2_30).toNat < n30) (H : Heap) (locs : List Loc) (ls : Array Slot) (hw : Wd D A s.heap L0 fw30 H locs) (hl : lv_has ls 3 [(0, .ref a0), (2, .int (iI y2_30))]), W p l e ({ frames := 2, cells := 0, slots := 0, locals := 43 } : Room) s m ([.ref a0, .int (iI x1)] : List Value).toArray below meth c H locs (0 + 0) (0 + 0) (MQ below (Qi D (tq cy) L0 f0 s.heap.size (fun (r : Int) (L1 : List Nat) (f1 : Nat → va_E) => L0 = L1 ∧ MS cy L0 f1 a0 ad ∧ Kp a0 ad [4] [5, 10] f0 f1 ∧ (MV f1 a0 ad ∧ ((r = 0 ∧ (x1 < 0 ∨ fI f0 a0 5 ≤ x1) ∧ fI f1 a0 5 = fI f0 a0 5 ∧ ∀ x : Int, aI f1 (ad 4) x = aI f0 (ad 4) x) ∨ (r = 1 ∧ 0 ≤ x1 ∧ x1 < fI f0 a0 5 ∧ fI f1 a0 5 = fI f0 a0 5 - 1 ∧ (∀ x : Int, 0 ≤ x → x < 44 * x1 → aI f1 (ad 4) x = aI f0 (ad 4) x) ∧ (∀ x : Int, 44 * x1 ≤ x → x < 44 * (fI f0 a0 5 - 1) → aI f1 (ad 4) x = aI f0 (ad 4) (x + 44))))))) ([.ref a0, .int (iI x1)] : List Value).toArray s 0 0 A) (F0 m 30 ls []) := by
      intro n30
      induction n30 with
      | zero => intro y2_30 ly2_30 uy2_30 L fw30 hs hE i1 i2 ca cb hn30; exact absurd hn30 (Nat.not_lt_zero _)
      | succ n30 ih30 =>
        intro y2_30 ly2_30 uy2_30 L fw30 hs hE i1 i2 ca cb hn30 H locs ls hw hl
        refine lv_iload_n hx hb dX10_cancel_30 rfl (lv_at hl 1 rfl) ?_
        refine q_bipush hx hb dX10_cancel_31 rfl ?_
        refine lv_aload_n hx hb dX10_cancel_33 rfl (lv_at hl 0 rfl) ?_
        refine q_geti (ci := 8) (C := RX10) (T := TX10) (N := 26) hx hb hts (fun w h => List.mem_cons_of_mem _ (mfX100 w h)) hown hK hw hs.1 hs.2.1 rfl 5 (by decide) (hts _ (List.mem_cons_of_mem _ (mr19 _ (List.mem_of_getElem? (i := 1) rfl)))) (fun _ h => h) rfl dX10_cancel_34 (fun x_7 lx_7 ux_7 ex_7 => ?_)
        first | refine q_imul hx hb dX10_cancel_37 ⟨by omega, by omega⟩ (fun x_8 lx_8 ux_8 ex_8 => ?_) | refine q_imulw hx hb dX10_cancel_37 (fun x_8 lx_8 ux_8 ex_8 => ?_)
        refine q_icmp_ge (tgt := 62) hx hb dX10_cancel_38 (by decide) ⟨ly2_30, uy2_30⟩ ⟨lx_8, ux_8⟩ (fun c38 => ?_) (fun c38 => ?_)
        · refine q_iconst hx hb dX10_cancel_62 ?_
          exact q_ret_z hx hb hr hlocks hK hAe hw (by omega) (Nat.le_of_ble_eq_true rfl) (Nat.le_of_ble_eq_true rfl) dX10_cancel_63 (by exact ⟨rfl, hs, hE, hv.less (c := x1) (by omega) (by omega) (by omega) (fun x q0 q1 => cb x q0 (by omega)) (fun x q0 q1 => ca x q0 (by omega)), Or.inr ⟨by omega, by omega, by omega, by omega, fun x q0 q1 => cb x q0 (by omega), fun x q0 q1 => ca x q0 (by omega)⟩⟩)
        · refine lv_aload_n hx hb dX10_cancel_41 rfl (lv_at hl 0 rfl) ?_
          refine q_getr (ci := 8) (C := RX10) (T := TX10) (N := 26) hx hb hts (fun w h => List.mem_cons_of_mem _ (mfX100 w h)) hown hK hw hs.1 hs.2.1 rfl 4 (by decide) (hts _ (List.mem_cons_of_mem _ (mr3 _ (List.mem_of_getElem? (i := 14) rfl)))) (fun _ h => h) rfl (hs.2.2.1 4 rfl).1 dX10_cancel_42 ?_
          refine lv_iload_n hx hb dX10_cancel_45 rfl (lv_at hl 1 rfl) ?_
          refine lv_aload_n hx hb dX10_cancel_46 rfl (lv_at hl 0 rfl) ?_
          refine q_getr (ci := 8) (C := RX10) (T := TX10) (N := 26) hx hb hts (fun w h => List.mem_cons_of_mem _ (mfX100 w h)) hown hK hw hs.1 hs.2.1 rfl 4 (by decide) (hts _ (List.mem_cons_of_mem _ (mr3 _ (List.mem_of_getElem? (i := 14) rfl)))) (fun _ h => h) rfl (hs.2.2.1 4 rfl).1 dX10_cancel_47 ?_
          refine lv_iload_n hx hb dX10_cancel_50 rfl (lv_at hl 1 rfl) ?_
          refine q_bipush hx hb dX10_cancel_51 rfl ?_
          first | refine q_iadd hx hb dX10_cancel_53 ⟨by omega, by omega⟩ (fun x_9 lx_9 ux_9 ex_9 => ?_) | refine q_iaddw hx hb dX10_cancel_53 (fun x_9 lx_9 ux_9 ex_9 => ?_)
          refine q_iald hx hb hK hw (hs.2.2.1 4 rfl).2.1 1 (hs.2.2.1 4 rfl).2.2 rfl ⟨lx_9, ux_9⟩ (by omega) (by show _ < ((528 : Nat) : Int); omega) dX10_cancel_54 (fun x_10 lx_10 ux_10 ex_10 => ?_)
          refine q_iast hx hb hK hw (hs.2.2.1 4 rfl).2.1 1 (hs.2.2.1 4 rfl).2.2 rfl ⟨ly2_30, uy2_30⟩ (by omega) (by show _ < ((528 : Nat) : Int); omega) dX10_cancel_55 (fun H locs hw => ?_)
          obtain ⟨f_11, ef_11⟩ : ∃ g : Nat → va_E, g = aU fw30 (ad 4) y2_30 (iI x_10) := ⟨_, rfl⟩
          have t5_f_11 : fI f_11 a0 5 = fI fw30 a0 5 := by rw [ef_11]; exact hs.fI_aU rfl _ _
          have hE := hE.trans (show Kp a0 ad [4] [5, 10] fw30 f_11 by rw [ef_11]; exact Kp_aU hs rfl (by decide))
          have hs_ := hs
          have hs : MS cy L0 f_11 a0 ad := by rw [ef_11]; exact MS_aU hs rfl
          rw [← ef_11] at hw
          have fv : aI f_11 (ad 4) y2_30 = aI f0 (ad 4) (y2_30 + 44) := by
            have q := cb (y2_30 + 44) (by omega) (by omega)
            rw [ef_11]; exact Eq.trans (hs_.aI_self rfl ⟨by omega, by omega⟩) (Eq.trans ex_10 (Eq.trans (aI_cg (by omega)) q))
          have ca' : ∀ x : Int, 44 * x1 ≤ x → x < y2_30 + 1 → aI f_11 (ad 4) x = aI f0 (ad 4) (x + 44) := by
            intro x q0 q1
            by_cases ex : x = y2_30
            · rw [ex]; exact fv
            · exact Eq.trans (by rw [ef_11]; exact hs_.aI_nj rfl (by omega) (by omega) ex) (ca x q0 (by omega))
          have cb' : ∀ x : Int, 0 ≤ x → (x < 44 * x1 ∨ y2_30 + 1 ≤ x) → aI f_11 (ad 4) x = aI f0 (ad 4) x := fun x q0 q1 => Eq.trans (by rw [ef_11]; exact hs_.aI_nj rfl (by omega) q0 (by omega)) (cb x q0 (by omega))
          obtain ⟨x_12, lx_12, ux_12, hx_12, ex_12⟩ := q_inc y2_30 (1)
          try (replace ex_12 : x_12 = y2_30 + (1) := by omega)
          refine lv_iinc (v := iI x_12) (lv' := [(2, .int (iI x_12)), (0, .ref a0)]) hx hb dX10_cancel_56 hl (k := 1) rfl hx_12 (by decide) rfl (fun ls hl => ?_)
          refine lv_goto (tgt := 30) hx hb dX10_cancel_59 (by decide) ?_
          exact ih30 x_12 lx_12 ux_12 L0 f_11 hs hE (by omega) (by omega) (by first | (intro x q0 q1; exfalso; omega) | exact fun x q0 q1 => ca' x q0 (by omega) | fail "none") (by first | exact fun x _ _ => cb x | exact fun x q0 q1 => cb' x q0 (by omega) | fail "none") (by omega) _ _ _ hw (lv_sub hl [1, 0] rfl)
    exact J30 ((((2147483647 : Int) - x_6).toNat) + 1) x_6 lx_6 ux_6 L0 f_5 hs hE (by omega) (by omega) (by first | (intro x q0 q1; exfalso; omega) | exact fun x q0 q1 => ca' x q0 (by omega) | fail "none") (by first | exact fun x _ _ => cb x | exact fun x q0 q1 => cb' x q0 (by omega) | fail "none") (by omega) _ _ _ hw (lv_sub hl [1, 0] rfl)
  · refine q_iconst hx hb dX10_cancel_13 ?_
    exact q_ret_z hx hb hr hlocks hK hAe hw (by omega) (Nat.le_of_ble_eq_true rfl) (Nat.le_of_ble_eq_true rfl) dX10_cancel_14 (by exact ⟨rfl, hs, hE, hv.same (by omega) (fun x _ _ => cb x), Or.inl ⟨by omega, by omega, by omega, cb⟩⟩)
set_option maxHeartbeats 4000000 in
set_option maxRecDepth 100000 in
theorem c_X10_split_f {Z : Zt} (zo : Zok Z) (l : Launch) (D : va_G) (cy : Cy) (L0 : List Nat) (f0 : Nat → va_E) (a0 : Nat) (x1 : Int) (lx1 : -2147483648 ≤ x1) (ux1 : x1 ≤ 2147483647) (x2 : Int) (lx2 : -2147483648 ≤ x2) (ux2 : x2 ≤ 2147483647) (ad : Nat → Nat) (hs : MS cy L0 f0 a0 ad) (hv : MV f0 a0 ad) (hd : DT f0 ad 36525) (mo : MOk f0 a0 ad) : Ci Z l yX10_split (Cond.code yX10_split cX10_split 8 (some .int) :: TB) ({ frames := 3, cells := 0, slots := 0, locals := 74 } : Room) 0 0 D (tq cy) [.ref a0, .int (iI x1), .int (iI x2)] L0 f0 (fun (r : Int) (L1 : List Nat) (f1 : Nat → va_E) => L0 = L1 ∧ MS cy L0 f1 a0 ad ∧ Kp a0 ad [4, 12, 13] [5, 10] f0 f1 ∧ (MV f1 a0 ad ∧ ((r = -1 ∧ (x1 < 0 ∨ fI f0 a0 5 ≤ x1 ∨ x2 < 0 ∨ 36524 < x2 ∨ 12 ≤ fI f0 a0 5 ∨ cn (KG (aI f0 (ad 4)) (44 * x1)) 0 x2 = 0 ∨ cn (KG (aI f0 (ad 4)) (44 * x1)) x2 36525 = 0) ∧ fI f1 a0 5 = fI f0 a0 5 ∧ ∀ x : Int, aI f1 (ad 4) x = aI f0 (ad 4) x) ∨ (r = fI f0 a0 5 ∧ 0 ≤ x1 ∧ x1 < fI f0 a0 5 ∧ 0 ≤ x2 ∧ x2 ≤ 36524 ∧ fI f0 a0 5 < 12 ∧ cn (KG (aI f0 (ad 4)) (44 * x1)) 0 x2 ≠ 0 ∧ cn (KG (aI f0 (ad 4)) (44 * x1)) x2 36525 ≠ 0 ∧ fI f1 a0 5 = fI f0 a0 5 + 1 ∧ (∀ x : Int, 0 ≤ x → (x < 44 * fI f0 a0 5 ∧ (x < 44 * x1 ∨ 44 * x1 + 43 < x)) → aI f1 (ad 4) x = aI f0 (ad 4) x) ∧ (∀ j : Int, 0 ≤ j → j ≤ 10 → aI f1 (ad 4) (44 * x1 + j) = HWd (aI f0 (ad 4)) (44 * x1) x2 (44 * x1 + j)) ∧ (∀ j : Int, 0 ≤ j → j ≤ 10 → aI f1 (ad 4) (44 * fI f0 a0 5 + j) = TWd (aI f0 (ad 4)) (44 * x1) x2 (44 * x1 + j)))))) := by
  refine Ci.enter (cc := cX10_split) (n := 8) rfl (plainFor_of_name (by decide)) (Nat.le_of_ble_eq_true rfl) ?_
  intro p e s m below meth c ls A hx hb hr hts hown hlocks hnm hml hK hA hAe hw hZ hl
  have hown : s.vm.findClass RX10 = some m.cls := hown
  have hl : lv_has ls 8 [(0, .ref a0), (1, .int (iI x1)), (2, .int (iI x2))] := hl
  have hN : ZN s := (zo.2.2.2.2 _ _ _ hZ).2
  have hE : Kp a0 ad [4, 12, 13] [5, 10] f0 f0 := Kp.refl _ _ _ _ _
  have m5 := hv.1
  have m6 := hv.2.1
  have q4 : ∀ x : Int, aI f0 (ad 4) x = aI f0 (ad 4) x := fun _ => rfl
  have h4 : ∀ x : Int, 0 ≤ x → (x < 44 * fI f0 a0 5 ∧ (x < 44 * x1 ∨ 44 * x1 + 43 < x)) → aI f0 (ad 4) x = aI f0 (ad 4) x := fun _ _ _ => rfl
  have J249 : ∀ (L : List Nat) (fw249 : Nat → va_E) (hs : MS cy L0 fw249 a0 ad) (hE : Kp a0 ad [4, 12, 13] [5, 10] f0 fw249) (h4 : ∀ x : Int, 0 ≤ x → (x < 44 * fI f0 a0 5 ∧ (x < 44 * x1 ∨ 44 * x1 + 43 < x)) → aI fw249 (ad 4) x = aI f0 (ad 4) x) (b1 : 0 ≤ x1) (b2 : x1 < fI f0 a0 5) (b3 : fI f0 a0 5 ≤ 11) (d1 : 0 ≤ x2) (d2 : x2 ≤ 36524) (u5 : fI fw249 a0 5 = fI f0 a0 5 + 1) (ra : RO (aI fw249 (ad 4)) (44 * x1)) (rb : RP (fun k => x2 ≤ k) (aI fw249 (ad 4)) (44 * fI f0 a0 5)) (nz : cn (KG (aI f0 (ad 4)) (44 * x1)) 0 x2 ≠ 0) (ny : cn (KG (aI f0 (ad 4)) (44 * x1)) x2 36525 ≠ 0) (wa : ∀ j : Int, 0 ≤ j → j ≤ 10 → aI fw249 (ad 4) (44 * x1 + j) = HWd (aI f0 (ad 4)) (44 * x1) x2 (44 * x1 + j)) (wb : ∀ j : Int, 0 ≤ j → j ≤ 10 → aI fw249 (ad 4) (44 * fI f0 a0 5 + j) = TWd (aI f0 (ad 4)) (44 * x1) x2 (44 * x1 + j)) (H : Heap) (locs : List Loc) (ls : Array Slot) (hw : Wd D A s.heap L0 fw249 H locs) (hl : lv_has ls 8 [(0, .ref a0), (2, .int (iI x2))]), W p l e ({ frames := 3, cells := 0, slots := 0, locals := 74 } : Room) s m ([.ref a0, .int (iI x1), .int (iI x2)] : List Value).toArray below meth c H locs (0) (0) (MQ below (Qi D (tq cy) L0 f0 s.heap.size (fun (r : Int) (L1 : List Nat) (f1 : Nat → va_E) => L0 = L1 ∧ MS cy L0 f1 a0 ad ∧ Kp a0 ad [4, 12, 13] [5, 10] f0 f1 ∧ (MV f1 a0 ad ∧ ((r = -1 ∧ (x1 < 0 ∨ fI f0 a0 5 ≤ x1 ∨ x2 < 0 ∨ 36524 < x2 ∨ 12 ≤ fI f0 a0 5 ∨ cn (KG (aI f0 (ad 4)) (44 * x1)) 0 x2 = 0 ∨ cn (KG (aI f0 (ad 4)) (44 * x1)) x2 36525 = 0) ∧ fI f1 a0 5 = fI f0 a0 5 ∧ ∀ x : Int, aI f1 (ad 4) x = aI f0 (ad 4) x) ∨ (r = fI f0 a0 5 ∧ 0 ≤ x1 ∧ x1 < fI f0 a0 5 ∧ 0 ≤ x2 ∧ x2 ≤ 36524 ∧ fI f0 a0 5 < 12 ∧ cn (KG (aI f0 (ad 4)) (44 * x1)) 0 x2 ≠ 0 ∧ cn (KG (aI f0 (ad 4)) (44 * x1)) x2 36525 ≠ 0 ∧ fI f1 a0 5 = fI f0 a0 5 + 1 ∧ (∀ x : Int, 0 ≤ x → (x < 44 * fI f0 a0 5 ∧ (x < 44 * x1 ∨ 44 * x1 + 43 < x)) → aI f1 (ad 4) x = aI f0 (ad 4) x) ∧ (∀ j : Int, 0 ≤ j → j ≤ 10 → aI f1 (ad 4) (44 * x1 + j) = HWd (aI f0 (ad 4)) (44 * x1) x2 (44 * x1 + j)) ∧ (∀ j : Int, 0 ≤ j → j ≤ 10 → aI f1 (ad 4) (44 * fI f0 a0 5 + j) = TWd (aI f0 (ad 4)) (44 * x1) x2 (44 * x1 + j))))))) ([.ref a0, .int (iI x1), .int (iI x2)] : List Value).toArray s 0 0 A) (F0 m 249 ls []) := by
    intro L fw249 hs hE h4 b1 b2 b3 d1 d2 u5 ra rb nz ny wa wb H locs ls hw hl
    have l2 := rb.len
    refine lv_aload_n hx hb dX10_split_249 rfl (lv_at hl 0 rfl) ?_
    refine lv_aload_n hx hb dX10_split_250 rfl (lv_at hl 0 rfl) ?_
    refine q_geti (ci := 8) (C := RX10) (T := TX10) (N := 26) hx hb hts (fun w h => List.mem_cons_of_mem _ (mfX100 w h)) hown hK hw hs.1 hs.2.1 rfl 5 (by decide) (hts _ (List.mem_cons_of_mem _ (mr19 _ (List.mem_of_getElem? (i := 1) rfl)))) (fun _ h => h) rfl dX10_split_251 (fun x_1 lx_1 ux_1 ex_1 => ?_)
    refine q_iconst hx hb dX10_split_254 ?_
    first | refine q_isub hx hb dX10_split_255 ⟨by omega, by omega⟩ (fun x_2 lx_2 ux_2 ex_2 => ?_) | refine q_isubw hx hb dX10_split_255 (fun x_2 lx_2 ux_2 ex_2 => ?_)
    refine q_bipush hx hb dX10_split_256 rfl ?_
    refine q_call_i hA hK hw (va_runV (As := [.int (iI x_2), .int (iI 11)]) (rest := []) ⟨hx, hb, hml, hown, hts⟩ (c_X10_get zo l D cy L0 fw249 a0 x_2 lx_2 ux_2 11 (by decide) (by decide) ad hs (by omega) (by omega) (by omega) (by omega) _) (cwV 2 hts (gT (inV (mr25 _ (List.mem_of_getElem? (i := 0) rfl)) (mr25 _ (List.mem_of_getElem? (i := 1) rfl)) (mr25 _ (List.mem_of_getElem? (i := 2) rfl)) (mr1 _ (List.mem_of_getElem? (i := 5) rfl)) (mr25 _ (List.mem_of_getElem? (i := 3) rfl)))) rfl rfl rfl (by decide +kernel) ⟨Nat.le_of_ble_eq_true rfl, Nat.le_of_ble_eq_true rfl⟩) (Wd.preV zo hA hZ hw hK hs.1 hs.2.1 rfl) rfl rfl hl.1 rfl (lv_room (Nat.le_of_ble_eq_true rfl)) dX10_split_258 ⟨Nat.le_of_ble_eq_true rfl, Nat.le_of_ble_eq_true rfl⟩) (fun x_3 L1 f1 H locs lx_3 ux_3 ex_3 hw => ?_)
    obtain ⟨rfl, rfl, ex_3⟩ := ex_3
    have g258 : x_3 = aI fw249 (ad 4) (44 * fI f0 a0 5 + 11) := ex_3.trans (aI_cg (by omega))
    refine q_iconst hx hb dX10_split_261 ?_
    first | refine q_isub hx hb dX10_split_262 ⟨by omega, by omega⟩ (fun x_4 lx_4 ux_4 ex_4 => ?_) | refine q_isubw hx hb dX10_split_262 (fun x_4 lx_4 ux_4 ex_4 => ?_)
    refine lv_istore (lv' := [(7, .int (iI x_4)), (0, .ref a0), (2, .int (iI x2))]) hx hb dX10_split_263 hl (by decide) rfl (fun ls hl => ?_)
    have J265 : ∀ (n265 : Nat) (y7_265 : Int) (ly7_265 : -2147483648 ≤ y7_265) (uy7_265 : y7_265 ≤ 2147483647) (L : List Nat) (fw265 : Nat → va_E) (hs : MS cy L0 fw265 a0 ad) (hE : Kp a0 ad [4, 12, 13] [5, 10] f0 fw265) (h4 : ∀ x : Int, 0 ≤ x → (x < 44 * fI f0 a0 5 ∧ (x < 44 * x1 ∨ 44 * x1 + 43 < x)) → aI fw265 (ad 4) x = aI f0 (ad 4) x) (i1 : -1 ≤ y7_265) (i2 : y7_265 < aI fw265 (ad 4) (44 * fI f0 a0 5 + 11)) (u5 : fI fw265 a0 5 = fI f0 a0 5 + 1) (ra : RO (aI fw265 (ad 4)) (44 * x1)) (rb : RP (fun k => x2 ≤ k) (aI fw265 (ad 4)) (44 * fI f0 a0 5)) (tl : ∀ i : Int, y7_265 < i → i < aI fw265 (ad 4) (44 * fI f0 a0 5 + 11) → x2 ≤ aI fw265 (ad 4) (44 * fI f0 a0 5 + 12 + 2 * i)) (wa : ∀ j : Int, 0 ≤ j → j ≤ 10 → aI fw265 (ad 4) (44 * x1 + j) = HWd (aI f0 (ad 4)) (44 * x1) x2 (44 * x1 + j)) (wb : ∀ j : Int, 0 ≤ j → j ≤ 10 → aI fw265 (ad 4) (44 * fI f0 a0 5 + j) = TWd (aI f0 (ad 4)) (44 * x1) x2 (44 * x1 + j)) (hn265 : (y7_265 + (2147483648 : Int)).toNat < n265) (H : Heap) (locs : List Loc) (ls : Array Slot) (hw : Wd D A s.heap L0 fw265 H locs) (hl : lv_has ls 8 [(0, .ref a0), (2, .int (iI x2)), (7, .int (iI y7_265))]), W p l e ({ frames := 3, cells := 0, slots := 0, locals := 74 } : Room) s m ([.ref a0, .int (iI x1), .int (iI x2)] : List Value).toArray below meth c H locs (0 + 0) (0 + 0) (MQ below (Qi D (tq cy) L0 f0 s.heap.size (fun (r : Int) (L1 : List Nat) (f1 : Nat → va_E) => L0 = L1 ∧ MS cy L0 f1 a0 ad ∧ Kp a0 ad [4, 12, 13] [5, 10] f0 f1 ∧ (MV f1 a0 ad ∧ ((r = -1 ∧ (x1 < 0 ∨ fI f0 a0 5 ≤ x1 ∨ x2 < 0 ∨ 36524 < x2 ∨ 12 ≤ fI f0 a0 5 ∨ cn (KG (aI f0 (ad 4)) (44 * x1)) 0 x2 = 0 ∨ cn (KG (aI f0 (ad 4)) (44 * x1)) x2 36525 = 0) ∧ fI f1 a0 5 = fI f0 a0 5 ∧ ∀ x : Int, aI f1 (ad 4) x = aI f0 (ad 4) x) ∨ (r = fI f0 a0 5 ∧ 0 ≤ x1 ∧ x1 < fI f0 a0 5 ∧ 0 ≤ x2 ∧ x2 ≤ 36524 ∧ fI f0 a0 5 < 12 ∧ cn (KG (aI f0 (ad 4)) (44 * x1)) 0 x2 ≠ 0 ∧ cn (KG (aI f0 (ad 4)) (44 * x1)) x2 36525 ≠ 0 ∧ fI f1 a0 5 = fI f0 a0 5 + 1 ∧ (∀ x : Int, 0 ≤ x → (x < 44 * fI f0 a0 5 ∧ (x < 44 * x1 ∨ 44 * x1 + 43 < x)) → aI f1 (ad 4) x = aI f0 (ad 4) x) ∧ (∀ j : Int, 0 ≤ j → j ≤ 10 → aI f1 (ad 4) (44 * x1 + j) = HWd (aI f0 (ad 4)) (44 * x1) x2 (44 * x1 + j)) ∧ (∀ j : Int, 0 ≤ j → j ≤ 10 → aI f1 (ad 4) (44 * fI f0 a0 5 + j) = TWd (aI f0 (ad 4)) (44 * x1) x2 (44 * x1 + j))))))) ([.ref a0, .int (iI x1), .int (iI x2)] : List Value).toArray s 0 0 A) (F0 m 265 ls []) := by
      intro n265
      induction n265 with
      | zero => intro y7_265 ly7_265 uy7_265 L fw265 hs hE h4 i1 i2 u5 ra rb tl wa wb hn265; exact absurd hn265 (Nat.not_lt_zero _)
      | succ n265 ih265 =>
        intro y7_265 ly7_265 uy7_265 L fw265 hs hE h4 i1 i2 u5 ra rb tl wa wb hn265 H locs ls hw hl
        have l2 := rb.len
        refine lv_iload hx hb dX10_split_265 (lv_at hl 2 rfl) ?_
        refine q_if_lt (tgt := 309) hx hb dX10_split_267 (by decide) ⟨ly7_265, uy7_265⟩ (fun c267 => ?_) (fun c267 => ?_)
        · refine lv_aload_n hx hb dX10_split_309 rfl (lv_at hl 0 rfl) ?_
          refine q_geti (ci := 8) (C := RX10) (T := TX10) (N := 26) hx hb hts (fun w h => List.mem_cons_of_mem _ (mfX100 w h)) hown hK hw hs.1 hs.2.1 rfl 5 (by decide) (hts _ (List.mem_cons_of_mem _ (mr19 _ (List.mem_of_getElem? (i := 1) rfl)))) (fun _ h => h) rfl dX10_split_310 (fun x_5 lx_5 ux_5 ex_5 => ?_)
          refine q_iconst hx hb dX10_split_313 ?_
          first | refine q_isub hx hb dX10_split_314 ⟨by omega, by omega⟩ (fun x_6 lx_6 ux_6 ex_6 => ?_) | refine q_isubw hx hb dX10_split_314 (fun x_6 lx_6 ux_6 ex_6 => ?_)
          exact q_ret_i hx hb hr hlocks hK hAe hw ⟨lx_6, ux_6⟩ (Nat.le_of_ble_eq_true rfl) (Nat.le_of_ble_eq_true rfl) dX10_split_315 (by exact ⟨rfl, hs, hE, hv.two (c := x1) (by omega) (by omega) h4 ra (rb.done (fun k q0 q1 => tl k (by omega) q1)), Or.inr ⟨by omega, by omega, by omega, by omega, by omega, by omega, nz, ny, by omega, h4, wa, wb⟩⟩)
        · refine lv_aload_n hx hb dX10_split_270 rfl (lv_at hl 0 rfl) ?_
          refine lv_aload_n hx hb dX10_split_271 rfl (lv_at hl 0 rfl) ?_
          refine q_geti (ci := 8) (C := RX10) (T := TX10) (N := 26) hx hb hts (fun w h => List.mem_cons_of_mem _ (mfX100 w h)) hown hK hw hs.1 hs.2.1 rfl 5 (by decide) (hts _ (List.mem_cons_of_mem _ (mr19 _ (List.mem_of_getElem? (i := 1) rfl)))) (fun _ h => h) rfl dX10_split_272 (fun x_7 lx_7 ux_7 ex_7 => ?_)
          refine q_iconst hx hb dX10_split_275 ?_
          first | refine q_isub hx hb dX10_split_276 ⟨by omega, by omega⟩ (fun x_8 lx_8 ux_8 ex_8 => ?_) | refine q_isubw hx hb dX10_split_276 (fun x_8 lx_8 ux_8 ex_8 => ?_)
          refine q_bipush hx hb dX10_split_277 rfl ?_
          refine q_iconst hx hb dX10_split_279 ?_
          refine lv_iload hx hb dX10_split_280 (lv_at hl 2 rfl) ?_
          first | refine q_imul hx hb dX10_split_282 ⟨by omega, by omega⟩ (fun x_9 lx_9 ux_9 ex_9 => ?_) | refine q_imulw hx hb dX10_split_282 (fun x_9 lx_9 ux_9 ex_9 => ?_)
          first | refine q_iadd hx hb dX10_split_283 ⟨by omega, by omega⟩ (fun x_10 lx_10 ux_10 ex_10 => ?_) | refine q_iaddw hx hb dX10_split_283 (fun x_10 lx_10 ux_10 ex_10 => ?_)
          refine q_call_i hA hK hw (va_runV (As := [.int (iI x_8), .int (iI x_10)]) (rest := []) ⟨hx, hb, hml, hown, hts⟩ (c_X10_get zo l D cy L0 fw265 a0 x_8 lx_8 ux_8 x_10 lx_10 ux_10 ad hs (by omega) (by omega) (by omega) (by omega) _) (cwV 2 hts (gT (inV (mr25 _ (List.mem_of_getElem? (i := 0) rfl)) (mr25 _ (List.mem_of_getElem? (i := 1) rfl)) (mr25 _ (List.mem_of_getElem? (i := 2) rfl)) (mr1 _ (List.mem_of_getElem? (i := 5) rfl)) (mr25 _ (List.mem_of_getElem? (i := 3) rfl)))) rfl rfl rfl (by decide +kernel) ⟨Nat.le_of_ble_eq_true rfl, Nat.le_of_ble_eq_true rfl⟩) (Wd.preV zo hA hZ hw hK hs.1 hs.2.1 rfl) rfl rfl hl.1 rfl (lv_room (Nat.le_of_ble_eq_true rfl)) dX10_split_284 ⟨Nat.le_of_ble_eq_true rfl, Nat.le_of_ble_eq_true rfl⟩) (fun x_11 L1 f1 H locs lx_11 ux_11 ex_11 hw => ?_)
          obtain ⟨rfl, rfl, ex_11⟩ := ex_11
          have g284 : aI fw265 (ad 4) (44 * fI f0 a0 5 + 12 + 2 * y7_265) = x_11 := (aI_cg (by omega)).trans ex_11.symm
          refine lv_iload_n hx hb dX10_split_287 rfl (lv_at hl 1 rfl) ?_
          have J303 : ∀ (L : List Nat) (fw303 : Nat → va_E) (hs : MS cy L0 fw303 a0 ad) (hE : Kp a0 ad [4, 12, 13] [5, 10] f0 fw303) (h4 : ∀ x : Int, 0 ≤ x → (x < 44 * fI f0 a0 5 ∧ (x < 44 * x1 ∨ 44 * x1 + 43 < x)) → aI fw303 (ad 4) x = aI f0 (ad 4) x) (i2 : y7_265 - 1 < aI fw303 (ad 4) (44 * fI f0 a0 5 + 11)) (u5 : fI fw303 a0 5 = fI f0 a0 5 + 1) (ra : RO (aI fw303 (ad 4)) (44 * x1)) (rb : RP (fun k => x2 ≤ k) (aI fw303 (ad 4)) (44 * fI f0 a0 5)) (tl : ∀ i : Int, y7_265 ≤ i → i < aI fw303 (ad 4) (44 * fI f0 a0 5 + 11) → x2 ≤ aI fw303 (ad 4) (44 * fI f0 a0 5 + 12 + 2 * i)) (wa : ∀ j : Int, 0 ≤ j → j ≤ 10 → aI fw303 (ad 4) (44 * x1 + j) = HWd (aI f0 (ad 4)) (44 * x1) x2 (44 * x1 + j)) (wb : ∀ j : Int, 0 ≤ j → j ≤ 10 → aI fw303 (ad 4) (44 * fI f0 a0 5 + j) = TWd (aI f0 (ad 4)) (44 * x1) x2 (44 * x1 + j)) (H : Heap) (locs : List Loc) (ls : Array Slot) (hw : Wd D A s.heap L0 fw303 H locs) (hl : lv_has ls 8 [(0, .ref a0), (2, .int (iI x2)), (7, .int (iI y7_265))]), W p l e ({ frames := 3, cells := 0, slots := 0, locals := 74 } : Room) s m ([.ref a0, .int (iI x1), .int (iI x2)] : List Value).toArray below meth c H locs (0 + 0 + 0) (0 + 0 + 0) (MQ below (Qi D (tq cy) L0 f0 s.heap.size (fun (r : Int) (L1 : List Nat) (f1 : Nat → va_E) => L0 = L1 ∧ MS cy L0 f1 a0 ad ∧ Kp a0 ad [4, 12, 13] [5, 10] f0 f1 ∧ (MV f1 a0 ad ∧ ((r = -1 ∧ (x1 < 0 ∨ fI f0 a0 5 ≤ x1 ∨ x2 < 0 ∨ 36524 < x2 ∨ 12 ≤ fI f0 a0 5 ∨ cn (KG (aI f0 (ad 4)) (44 * x1)) 0 x2 = 0 ∨ cn (KG (aI f0 (ad 4)) (44 * x1)) x2 36525 = 0) ∧ fI f1 a0 5 = fI f0 a0 5 ∧ ∀ x : Int, aI f1 (ad 4) x = aI f0 (ad 4) x) ∨ (r = fI f0 a0 5 ∧ 0 ≤ x1 ∧ x1 < fI f0 a0 5 ∧ 0 ≤ x2 ∧ x2 ≤ 36524 ∧ fI f0 a0 5 < 12 ∧ cn (KG (aI f0 (ad 4)) (44 * x1)) 0 x2 ≠ 0 ∧ cn (KG (aI f0 (ad 4)) (44 * x1)) x2 36525 ≠ 0 ∧ fI f1 a0 5 = fI f0 a0 5 + 1 ∧ (∀ x : Int, 0 ≤ x → (x < 44 * fI f0 a0 5 ∧ (x < 44 * x1 ∨ 44 * x1 + 43 < x)) → aI f1 (ad 4) x = aI f0 (ad 4) x) ∧ (∀ j : Int, 0 ≤ j → j ≤ 10 → aI f1 (ad 4) (44 * x1 + j) = HWd (aI f0 (ad 4)) (44 * x1) x2 (44 * x1 + j)) ∧ (∀ j : Int, 0 ≤ j → j ≤ 10 → aI f1 (ad 4) (44 * fI f0 a0 5 + j) = TWd (aI f0 (ad 4)) (44 * x1) x2 (44 * x1 + j))))))) ([.ref a0, .int (iI x1), .int (iI x2)] : List Value).toArray s 0 0 A) (F0 m 303 ls []) := by
            intro L fw303 hs hE h4 i2 u5 ra rb tl wa wb H locs ls hw hl
            obtain ⟨x_12, lx_12, ux_12, hx_12, ex_12⟩ := q_inc y7_265 (-1)
            try (replace ex_12 : x_12 = y7_265 + (-1) := by omega)
            refine lv_iinc (v := iI x_12) (lv' := [(7, .int (iI x_12)), (0, .ref a0), (2, .int (iI x2))]) hx hb dX10_split_303 hl (k := 2) rfl hx_12 (by decide) rfl (fun ls hl => ?_)
            refine lv_goto (tgt := 265) hx hb dX10_split_306 (by decide) ?_
            exact ih265 x_12 lx_12 ux_12 L0 fw303 hs hE h4 (by omega) (by omega) (by omega) (by exact ra) (by exact rb) (by first | (intro i q0 q1; exfalso; omega) | exact fun i q0 q1 => tl i (by omega) q1 | fail "none") (by exact wa) (by exact wb) (by omega) _ _ _ hw (lv_sub hl [1, 2, 0] rfl)
          refine q_icmp_ge (tgt := 303) hx hb dX10_split_288 (by decide) ⟨lx_11, ux_11⟩ ⟨lx2, ux2⟩ (fun c288 => ?_) (fun c288 => ?_)
          · exact J303 L0 fw265 hs hE h4 (by omega) (by omega) (by first | exact ra | exact ra' | fail "none") (by first | exact rb | exact rb' | fail "none") (by first | (intro i q0 q1; exact (Decidable.em (i = y7_265)).elim (fun ei => by rw [ei, g284]; omega) (fun ei => tl i (by omega) q1)) | (intro i q0 q1; rw [rl i (by omega) q1]; exact tl (i + 1) (by omega) (by omega)) | fail "none") (by first | exact wa | exact wa' | fail "none") (by first | exact wb | exact wb' | fail "none") _ _ _ hw (lv_sub hl [0, 1, 2] rfl)
          · refine lv_aload_n hx hb dX10_split_291 rfl (lv_at hl 0 rfl) ?_
            refine lv_aload_n hx hb dX10_split_292 rfl (lv_at hl 0 rfl) ?_
            refine q_geti (ci := 8) (C := RX10) (T := TX10) (N := 26) hx hb hts (fun w h => List.mem_cons_of_mem _ (mfX100 w h)) hown hK hw hs.1 hs.2.1 rfl 5 (by decide) (hts _ (List.mem_cons_of_mem _ (mr19 _ (List.mem_of_getElem? (i := 1) rfl)))) (fun _ h => h) rfl dX10_split_293 (fun x_13 lx_13 ux_13 ex_13 => ?_)
            refine q_iconst hx hb dX10_split_296 ?_
            first | refine q_isub hx hb dX10_split_297 ⟨by omega, by omega⟩ (fun x_14 lx_14 ux_14 ex_14 => ?_) | refine q_isubw hx hb dX10_split_297 (fun x_14 lx_14 ux_14 ex_14 => ?_)
            have gv : aI fw265 (ad 4) (44 * x_14 + 11) = aI fw265 (ad 4) (44 * fI f0 a0 5 + 11) := aI_cg (by omega)
            refine lv_iload hx hb dX10_split_298 (lv_at hl 2 rfl) ?_
            refine q_call_v hA hK hw (va_runV (As := [.int (iI x_14), .int (iI y7_265)]) (rest := []) ⟨hx, hb, hml, hown, hts⟩ (c_X10_forgets zo l D cy L0 fw265 a0 x_14 lx_14 ux_14 y7_265 ly7_265 uy7_265 ad hs (by omega) (by omega) (by omega) (by omega) (by omega) _) (cwV 2 hts (gT (inV (mr28 _ (List.mem_of_getElem? (i := 23) rfl)) (mr29 _ (List.mem_of_getElem? (i := 0) rfl)) (mr29 _ (List.mem_of_getElem? (i := 1) rfl)) (mr1 _ (List.mem_of_getElem? (i := 5) rfl)) (mr29 _ (List.mem_of_getElem? (i := 2) rfl)))) rfl rfl rfl (by decide +kernel) ⟨Nat.le_of_ble_eq_true rfl, Nat.le_of_ble_eq_true rfl⟩) (Wd.preV zo hA hZ hw hK hs.1 hs.2.1 rfl) rfl rfl hl.1 rfl (lv_room (Nat.le_of_ble_eq_true rfl)) dX10_split_300 ⟨Nat.le_of_ble_eq_true rfl, Nat.le_of_ble_eq_true rfl⟩) (fun L1 f_16 H locs ex_15 hw => ?_)
            obtain ⟨rfl, hs, hX, ex_15⟩ := ex_15
            have hE := hE.trans (hX.mono (rs' := [4, 12, 13]) (fs' := [5, 10]) (by decide) (by decide))
            have t5_f_16 : fI f_16 a0 5 = fI fw265 a0 5 := hX.2 5 (by decide)
            have ev : x_14 = fI f0 a0 5 := by omega
            rw [ev] at ex_15
            obtain ⟨fa, fb, fc⟩ := ex_15
            obtain ⟨rb', rk, rl⟩ := rb.forget (g' := aI f_16 (ad 4)) (k := y7_265) (by omega) (by omega) fa (fun x q0 q1 => fb x q0 q1) (fun x q0 q1 q2 => fc x (by omega) q2 (Or.inl q1))
            have ra' : RO (aI f_16 (ad 4)) (44 * x1) := ra.move (fun j q0 q1 => fc _ (by omega) (by omega) (by omega))
            have h4 : ∀ x : Int, 0 ≤ x → (x < 44 * fI f0 a0 5 ∧ (x < 44 * x1 ∨ 44 * x1 + 43 < x)) → aI f_16 (ad 4) x = aI f0 (ad 4) x := fun x q0 q1 => (fc x q0 (by omega) (by omega)).trans (h4 x q0 q1)
            have wa' := fun j q0 q1 => (fc (44 * x1 + j) (by omega) (by omega) (by omega)).trans (wa j q0 q1)
            have wb' := fun j q0 q1 => (fc (44 * fI f0 a0 5 + j) (by omega) (by omega) (by omega)).trans (wb j q0 q1)
            exact J303 L0 f_16 hs hE h4 (by omega) (by omega) (by first | exact ra | exact ra' | fail "none") (by first | exact rb | exact rb' | fail "none") (by first | (intro i q0 q1; exact (Decidable.em (i = y7_265)).elim (fun ei => by rw [ei, g284]; omega) (fun ei => tl i (by omega) q1)) | (intro i q0 q1; rw [rl i (by omega) q1]; exact tl (i + 1) (by omega) (by omega)) | fail "none") (by first | exact wa | exact wa' | fail "none") (by first | exact wb | exact wb' | fail "none") _ _ _ hw (lv_sub hl [0, 1, 2] rfl)
    exact J265 (((x_4 + (2147483648 : Int)).toNat) + 1) x_4 lx_4 ux_4 L0 fw249 hs hE h4 (by omega) (by omega) (by omega) (by exact ra) (by exact rb) (by first | (intro i q0 q1; exfalso; omega) | exact fun i q0 q1 => tl i (by omega) q1 | fail "none") (by exact wa) (by exact wb) (by omega) _ _ _ hw (lv_sub hl [1, 2, 0] rfl)
  have J194 : ∀ (L : List Nat) (fw194 : Nat → va_E) (hs : MS cy L0 fw194 a0 ad) (hE : Kp a0 ad [4, 12, 13] [5, 10] f0 fw194) (h4 : ∀ x : Int, 0 ≤ x → (x < 44 * fI f0 a0 5 ∧ (x < 44 * x1 ∨ 44 * x1 + 43 < x)) → aI fw194 (ad 4) x = aI f0 (ad 4) x) (b1 : 0 ≤ x1) (b2 : x1 < fI f0 a0 5) (b3 : fI f0 a0 5 ≤ 11) (d1 : 0 ≤ x2) (d2 : x2 ≤ 36524) (u5 : fI fw194 a0 5 = fI f0 a0 5) (ra : RP (fun k => k < x2) (aI fw194 (ad 4)) (44 * x1)) (rb : RP (fun k => x2 ≤ k) (aI fw194 (ad 4)) (44 * fI f0 a0 5)) (nz : cn (KG (aI f0 (ad 4)) (44 * x1)) 0 x2 ≠ 0) (ny : cn (KG (aI f0 (ad 4)) (44 * x1)) x2 36525 ≠ 0) (wa : ∀ j : Int, 0 ≤ j → j ≤ 10 → aI fw194 (ad 4) (44 * x1 + j) = HWd (aI f0 (ad 4)) (44 * x1) x2 (44 * x1 + j)) (wb : ∀ j : Int, 0 ≤ j → j ≤ 10 → aI fw194 (ad 4) (44 * fI f0 a0 5 + j) = TWd (aI f0 (ad 4)) (44 * x1) x2 (44 * x1 + j)) (H : Heap) (locs : List Loc) (ls : Array Slot) (hw : Wd D A s.heap L0 fw194 H locs) (hl : lv_has ls 8 [(0, .ref a0), (1, .int (iI x1)), (2, .int (iI x2))]), W p l e ({ frames := 3, cells := 0, slots := 0, locals := 74 } : Room) s m ([.ref a0, .int (iI x1), .int (iI x2)] : List Value).toArray below meth c H locs (0) (0) (MQ below (Qi D (tq cy) L0 f0 s.heap.size (fun (r : Int) (L1 : List Nat) (f1 : Nat → va_E) => L0 = L1 ∧ MS cy L0 f1 a0 ad ∧ Kp a0 ad [4, 12, 13] [5, 10] f0 f1 ∧ (MV f1 a0 ad ∧ ((r = -1 ∧ (x1 < 0 ∨ fI f0 a0 5 ≤ x1 ∨ x2 < 0 ∨ 36524 < x2 ∨ 12 ≤ fI f0 a0 5 ∨ cn (KG (aI f0 (ad 4)) (44 * x1)) 0 x2 = 0 ∨ cn (KG (aI f0 (ad 4)) (44 * x1)) x2 36525 = 0) ∧ fI f1 a0 5 = fI f0 a0 5 ∧ ∀ x : Int, aI f1 (ad 4) x = aI f0 (ad 4) x) ∨ (r = fI f0 a0 5 ∧ 0 ≤ x1 ∧ x1 < fI f0 a0 5 ∧ 0 ≤ x2 ∧ x2 ≤ 36524 ∧ fI f0 a0 5 < 12 ∧ cn (KG (aI f0 (ad 4)) (44 * x1)) 0 x2 ≠ 0 ∧ cn (KG (aI f0 (ad 4)) (44 * x1)) x2 36525 ≠ 0 ∧ fI f1 a0 5 = fI f0 a0 5 + 1 ∧ (∀ x : Int, 0 ≤ x → (x < 44 * fI f0 a0 5 ∧ (x < 44 * x1 ∨ 44 * x1 + 43 < x)) → aI f1 (ad 4) x = aI f0 (ad 4) x) ∧ (∀ j : Int, 0 ≤ j → j ≤ 10 → aI f1 (ad 4) (44 * x1 + j) = HWd (aI f0 (ad 4)) (44 * x1) x2 (44 * x1 + j)) ∧ (∀ j : Int, 0 ≤ j → j ≤ 10 → aI f1 (ad 4) (44 * fI f0 a0 5 + j) = TWd (aI f0 (ad 4)) (44 * x1) x2 (44 * x1 + j))))))) ([.ref a0, .int (iI x1), .int (iI x2)] : List Value).toArray s 0 0 A) (F0 m 194 ls []) := by
    intro L fw194 hs hE h4 b1 b2 b3 d1 d2 u5 ra rb nz ny wa wb H locs ls hw hl
    have l1 := ra.len
    have l2 := rb.len
    refine lv_aload_n hx hb dX10_split_194 rfl (lv_at hl 0 rfl) ?_
    refine lv_dup hx hb dX10_split_195 rfl ?_
    refine q_geti (ci := 8) (C := RX10) (T := TX10) (N := 26) hx hb hts (fun w h => List.mem_cons_of_mem _ (mfX100 w h)) hown hK hw hs.1 hs.2.1 rfl 5 (by decide) (hts _ (List.mem_cons_of_mem _ (mr19 _ (List.mem_of_getElem? (i := 1) rfl)))) (fun _ h => h) rfl dX10_split_196 (fun x_17 lx_17 ux_17 ex_17 => ?_)
    refine q_iconst hx hb dX10_split_199 ?_
    first | refine q_iadd hx hb dX10_split_200 ⟨by omega, by omega⟩ (fun x_18 lx_18 ux_18 ex_18 => ?_) | refine q_iaddw hx hb dX10_split_200 (fun x_18 lx_18 ux_18 ex_18 => ?_)
    refine q_puti (ci := 8) (C := RX10) (T := TX10) (N := 26) hx hb hts (fun w h => List.mem_cons_of_mem _ (mfX100 w h)) hown hK hw hs.1 hs.2.1 rfl 5 (by decide) (hts _ (List.mem_cons_of_mem _ (mr19 _ (List.mem_of_getElem? (i := 1) rfl)))) (fun _ h => h) tyX10 tyX10_ok nmX10 rfl (ty := .int) (by decide +kernel) rfl rfl dX10_split_201 (fun H locs hw => ?_)
    obtain ⟨f_19, ef_19⟩ : ∃ g : Nat → va_E, g = pU fw194 a0 5 (.int (iI x_18)) := ⟨_, rfl⟩
    have v5_f_19 : fI f_19 a0 5 = x_18 := by rw [ef_19]; exact fI_pU_self hs.2.1 rfl ⟨lx_18, ux_18⟩
    have hE := hE.trans (show Kp a0 ad [4, 12, 13] [5, 10] fw194 f_19 by rw [ef_19]; exact Kp_pU hs (by decide))
    have hs_ := hs
    have hs : MS cy L0 f_19 a0 ad := by rw [ef_19]; exact MS_pU hs rfl
    rw [← ef_19] at hw
    have h4 : ∀ x : Int, 0 ≤ x → (x < 44 * fI f0 a0 5 ∧ (x < 44 * x1 ∨ 44 * x1 + 43 < x)) → aI f_19 (ad 4) x = aI f0 (ad 4) x := fun x q0 q1 => Eq.trans (by rw [ef_19]; exact hs_.aI_pU _ _) (h4 x q0 q1)
    have ra : RP (fun k => k < x2) (aI f_19 (ad 4)) (44 * x1) := ra.same (fun x _ _ => by rw [ef_19]; exact hs_.aI_pU _ _)
    have rb : RP (fun k => x2 ≤ k) (aI f_19 (ad 4)) (44 * fI f0 a0 5) := rb.same (fun x _ _ => by rw [ef_19]; exact hs_.aI_pU _ _)
    have l1 := ra.len
    have l2 := rb.len
    have wa := fun j q0 q1 => (show aI f_19 (ad 4) (44 * x1 + j) = aI fw194 (ad 4) (44 * x1 + j) by rw [ef_19]; exact hs_.aI_pU _ _).trans (wa j q0 q1)
    have wb := fun j q0 q1 => (show aI f_19 (ad 4) (44 * fI f0 a0 5 + j) = aI fw194 (ad 4) (44 * fI f0 a0 5 + j) by rw [ef_19]; exact hs_.aI_pU _ _).trans (wb j q0 q1)
    refine lv_aload_n hx hb dX10_split_204 rfl (lv_at hl 0 rfl) ?_
    refine lv_iload_n hx hb dX10_split_205 rfl (lv_at hl 1 rfl) ?_
    refine q_bipush hx hb dX10_split_206 rfl ?_
    refine q_call_i hA hK hw (va_runV (As := [.int (iI x1), .int (iI 11)]) (rest := []) ⟨hx, hb, hml, hown, hts⟩ (c_X10_get zo l D cy L0 f_19 a0 x1 lx1 ux1 11 (by decide) (by decide) ad hs (by omega) (by omega) (by omega) (by omega) _) (cwV 2 hts (gT (inV (mr25 _ (List.mem_of_getElem? (i := 0) rfl)) (mr25 _ (List.mem_of_getElem? (i := 1) rfl)) (mr25 _ (List.mem_of_getElem? (i := 2) rfl)) (mr1 _ (List.mem_of_getElem? (i := 5) rfl)) (mr25 _ (List.mem_of_getElem? (i := 3) rfl)))) rfl rfl rfl (by decide +kernel) ⟨Nat.le_of_ble_eq_true rfl, Nat.le_of_ble_eq_true rfl⟩) (Wd.preV zo hA hZ hw hK hs.1 hs.2.1 rfl) rfl rfl hl.1 rfl (lv_room (Nat.le_of_ble_eq_true rfl)) dX10_split_208 ⟨Nat.le_of_ble_eq_true rfl, Nat.le_of_ble_eq_true rfl⟩) (fun x_20 L1 f1 H locs lx_20 ux_20 ex_20 hw => ?_)
    obtain ⟨rfl, rfl, ex_20⟩ := ex_20
    refine q_iconst hx hb dX10_split_211 ?_
    first | refine q_isub hx hb dX10_split_212 ⟨by omega, by omega⟩ (fun x_21 lx_21 ux_21 ex_21 => ?_) | refine q_isubw hx hb dX10_split_212 (fun x_21 lx_21 ux_21 ex_21 => ?_)
    refine lv_istore (lv' := [(7, .int (iI x_21)), (0, .ref a0), (1, .int (iI x1)), (2, .int (iI x2))]) hx hb dX10_split_213 hl (by decide) rfl (fun ls hl => ?_)
    have J215 : ∀ (n215 : Nat) (y7_215 : Int) (ly7_215 : -2147483648 ≤ y7_215) (uy7_215 : y7_215 ≤ 2147483647) (L : List Nat) (fw215 : Nat → va_E) (hs : MS cy L0 fw215 a0 ad) (hE : Kp a0 ad [4, 12, 13] [5, 10] f0 fw215) (h4 : ∀ x : Int, 0 ≤ x → (x < 44 * fI f0 a0 5 ∧ (x < 44 * x1 ∨ 44 * x1 + 43 < x)) → aI fw215 (ad 4) x = aI f0 (ad 4) x) (i1 : -1 ≤ y7_215) (i2 : y7_215 < aI fw215 (ad 4) (44 * x1 + 11)) (u5 : fI fw215 a0 5 = fI f0 a0 5 + 1) (ra : RP (fun k => k < x2) (aI fw215 (ad 4)) (44 * x1)) (rb : RP (fun k => x2 ≤ k) (aI fw215 (ad 4)) (44 * fI f0 a0 5)) (tl : ∀ i : Int, y7_215 < i → i < aI fw215 (ad 4) (44 * x1 + 11) → aI fw215 (ad 4) (44 * x1 + 12 + 2 * i) < x2) (wa : ∀ j : Int, 0 ≤ j → j ≤ 10 → aI fw215 (ad 4) (44 * x1 + j) = HWd (aI f0 (ad 4)) (44 * x1) x2 (44 * x1 + j)) (wb : ∀ j : Int, 0 ≤ j → j ≤ 10 → aI fw215 (ad 4) (44 * fI f0 a0 5 + j) = TWd (aI f0 (ad 4)) (44 * x1) x2 (44 * x1 + j)) (hn215 : (y7_215 + (2147483648 : Int)).toNat < n215) (H : Heap) (locs : List Loc) (ls : Array Slot) (hw : Wd D A s.heap L0 fw215 H locs) (hl : lv_has ls 8 [(0, .ref a0), (1, .int (iI x1)), (2, .int (iI x2)), (7, .int (iI y7_215))]), W p l e ({ frames := 3, cells := 0, slots := 0, locals := 74 } : Room) s m ([.ref a0, .int (iI x1), .int (iI x2)] : List Value).toArray below meth c H locs (0 + 0) (0 + 0) (MQ below (Qi D (tq cy) L0 f0 s.heap.size (fun (r : Int) (L1 : List Nat) (f1 : Nat → va_E) => L0 = L1 ∧ MS cy L0 f1 a0 ad ∧ Kp a0 ad [4, 12, 13] [5, 10] f0 f1 ∧ (MV f1 a0 ad ∧ ((r = -1 ∧ (x1 < 0 ∨ fI f0 a0 5 ≤ x1 ∨ x2 < 0 ∨ 36524 < x2 ∨ 12 ≤ fI f0 a0 5 ∨ cn (KG (aI f0 (ad 4)) (44 * x1)) 0 x2 = 0 ∨ cn (KG (aI f0 (ad 4)) (44 * x1)) x2 36525 = 0) ∧ fI f1 a0 5 = fI f0 a0 5 ∧ ∀ x : Int, aI f1 (ad 4) x = aI f0 (ad 4) x) ∨ (r = fI f0 a0 5 ∧ 0 ≤ x1 ∧ x1 < fI f0 a0 5 ∧ 0 ≤ x2 ∧ x2 ≤ 36524 ∧ fI f0 a0 5 < 12 ∧ cn (KG (aI f0 (ad 4)) (44 * x1)) 0 x2 ≠ 0 ∧ cn (KG (aI f0 (ad 4)) (44 * x1)) x2 36525 ≠ 0 ∧ fI f1 a0 5 = fI f0 a0 5 + 1 ∧ (∀ x : Int, 0 ≤ x → (x < 44 * fI f0 a0 5 ∧ (x < 44 * x1 ∨ 44 * x1 + 43 < x)) → aI f1 (ad 4) x = aI f0 (ad 4) x) ∧ (∀ j : Int, 0 ≤ j → j ≤ 10 → aI f1 (ad 4) (44 * x1 + j) = HWd (aI f0 (ad 4)) (44 * x1) x2 (44 * x1 + j)) ∧ (∀ j : Int, 0 ≤ j → j ≤ 10 → aI f1 (ad 4) (44 * fI f0 a0 5 + j) = TWd (aI f0 (ad 4)) (44 * x1) x2 (44 * x1 + j))))))) ([.ref a0, .int (iI x1), .int (iI x2)] : List Value).toArray s 0 0 A) (F0 m 215 ls []) := by
      intro n215
      induction n215 with
      | zero => intro y7_215 ly7_215 uy7_215 L fw215 hs hE h4 i1 i2 u5 ra rb tl wa wb hn215; exact absurd hn215 (Nat.not_lt_zero _)
      | succ n215 ih215 =>
        intro y7_215 ly7_215 uy7_215 L fw215 hs hE h4 i1 i2 u5 ra rb tl wa wb hn215 H locs ls hw hl
        have l1 := ra.len
        refine lv_iload hx hb dX10_split_215 (lv_at hl 3 rfl) ?_
        refine q_if_lt (tgt := 249) hx hb dX10_split_217 (by decide) ⟨ly7_215, uy7_215⟩ (fun c217 => ?_) (fun c217 => ?_)
        · exact J249 L0 fw215 hs hE h4 (by omega) (by omega) (by omega) (by omega) (by omega) (by omega) (by exact ra.done (fun k q0 q1 => tl k (by omega) q1)) (by exact rb) (by omega) (by omega) (by exact wa) (by exact wb) _ _ _ hw (lv_sub hl [0, 2] rfl)
        · refine lv_aload_n hx hb dX10_split_220 rfl (lv_at hl 0 rfl) ?_
          refine lv_iload_n hx hb dX10_split_221 rfl (lv_at hl 1 rfl) ?_
          refine q_bipush hx hb dX10_split_222 rfl ?_
          refine q_iconst hx hb dX10_split_224 ?_
          refine lv_iload hx hb dX10_split_225 (lv_at hl 3 rfl) ?_
          first | refine q_imul hx hb dX10_split_227 ⟨by omega, by omega⟩ (fun x_22 lx_22 ux_22 ex_22 => ?_) | refine q_imulw hx hb dX10_split_227 (fun x_22 lx_22 ux_22 ex_22 => ?_)
          first | refine q_iadd hx hb dX10_split_228 ⟨by omega, by omega⟩ (fun x_23 lx_23 ux_23 ex_23 => ?_) | refine q_iaddw hx hb dX10_split_228 (fun x_23 lx_23 ux_23 ex_23 => ?_)
          refine q_call_i hA hK hw (va_runV (As := [.int (iI x1), .int (iI x_23)]) (rest := []) ⟨hx, hb, hml, hown, hts⟩ (c_X10_get zo l D cy L0 fw215 a0 x1 lx1 ux1 x_23 lx_23 ux_23 ad hs (by omega) (by omega) (by omega) (by omega) _) (cwV 2 hts (gT (inV (mr25 _ (List.mem_of_getElem? (i := 0) rfl)) (mr25 _ (List.mem_of_getElem? (i := 1) rfl)) (mr25 _ (List.mem_of_getElem? (i := 2) rfl)) (mr1 _ (List.mem_of_getElem? (i := 5) rfl)) (mr25 _ (List.mem_of_getElem? (i := 3) rfl)))) rfl rfl rfl (by decide +kernel) ⟨Nat.le_of_ble_eq_true rfl, Nat.le_of_ble_eq_true rfl⟩) (Wd.preV zo hA hZ hw hK hs.1 hs.2.1 rfl) rfl rfl hl.1 rfl (lv_room (Nat.le_of_ble_eq_true rfl)) dX10_split_229 ⟨Nat.le_of_ble_eq_true rfl, Nat.le_of_ble_eq_true rfl⟩) (fun x_24 L1 f1 H locs lx_24 ux_24 ex_24 hw => ?_)
          obtain ⟨rfl, rfl, ex_24⟩ := ex_24
          have g229 : aI fw215 (ad 4) (44 * x1 + 12 + 2 * y7_215) = x_24 := (aI_cg (by omega)).trans ex_24.symm
          refine lv_iload_n hx hb dX10_split_232 rfl (lv_at hl 2 rfl) ?_
          have J243 : ∀ (L : List Nat) (fw243 : Nat → va_E) (hs : MS cy L0 fw243 a0 ad) (hE : Kp a0 ad [4, 12, 13] [5, 10] f0 fw243) (h4 : ∀ x : Int, 0 ≤ x → (x < 44 * fI f0 a0 5 ∧ (x < 44 * x1 ∨ 44 * x1 + 43 < x)) → aI fw243 (ad 4) x = aI f0 (ad 4) x) (i2 : y7_215 - 1 < aI fw243 (ad 4) (44 * x1 + 11)) (u5 : fI fw243 a0 5 = fI f0 a0 5 + 1) (ra : RP (fun k => k < x2) (aI fw243 (ad 4)) (44 * x1)) (rb : RP (fun k => x2 ≤ k) (aI fw243 (ad 4)) (44 * fI f0 a0 5)) (tl : ∀ i : Int, y7_215 ≤ i → i < aI fw243 (ad 4) (44 * x1 + 11) → aI fw243 (ad 4) (44 * x1 + 12 + 2 * i) < x2) (wa : ∀ j : Int, 0 ≤ j → j ≤ 10 → aI fw243 (ad 4) (44 * x1 + j) = HWd (aI f0 (ad 4)) (44 * x1) x2 (44 * x1 + j)) (wb : ∀ j : Int, 0 ≤ j → j ≤ 10 → aI fw243 (ad 4) (44 * fI f0 a0 5 + j) = TWd (aI f0 (ad 4)) (44 * x1) x2 (44 * x1 + j)) (H : Heap) (locs : List Loc) (ls : Array Slot) (hw : Wd D A s.heap L0 fw243 H locs) (hl : lv_has ls 8 [(0, .ref a0), (1, .int (iI x1)), (2, .int (iI x2)), (7, .int (iI y7_215))]), W p l e ({ frames := 3, cells := 0, slots := 0, locals := 74 } : Room) s m ([.ref a0, .int (iI x1), .int (iI x2)] : List Value).toArray below meth c H locs (0 + 0 + 0) (0 + 0 + 0) (MQ below (Qi D (tq cy) L0 f0 s.heap.size (fun (r : Int) (L1 : List Nat) (f1 : Nat → va_E) => L0 = L1 ∧ MS cy L0 f1 a0 ad ∧ Kp a0 ad [4, 12, 13] [5, 10] f0 f1 ∧ (MV f1 a0 ad ∧ ((r = -1 ∧ (x1 < 0 ∨ fI f0 a0 5 ≤ x1 ∨ x2 < 0 ∨ 36524 < x2 ∨ 12 ≤ fI f0 a0 5 ∨ cn (KG (aI f0 (ad 4)) (44 * x1)) 0 x2 = 0 ∨ cn (KG (aI f0 (ad 4)) (44 * x1)) x2 36525 = 0) ∧ fI f1 a0 5 = fI f0 a0 5 ∧ ∀ x : Int, aI f1 (ad 4) x = aI f0 (ad 4) x) ∨ (r = fI f0 a0 5 ∧ 0 ≤ x1 ∧ x1 < fI f0 a0 5 ∧ 0 ≤ x2 ∧ x2 ≤ 36524 ∧ fI f0 a0 5 < 12 ∧ cn (KG (aI f0 (ad 4)) (44 * x1)) 0 x2 ≠ 0 ∧ cn (KG (aI f0 (ad 4)) (44 * x1)) x2 36525 ≠ 0 ∧ fI f1 a0 5 = fI f0 a0 5 + 1 ∧ (∀ x : Int, 0 ≤ x → (x < 44 * fI f0 a0 5 ∧ (x < 44 * x1 ∨ 44 * x1 + 43 < x)) → aI f1 (ad 4) x = aI f0 (ad 4) x) ∧ (∀ j : Int, 0 ≤ j → j ≤ 10 → aI f1 (ad 4) (44 * x1 + j) = HWd (aI f0 (ad 4)) (44 * x1) x2 (44 * x1 + j)) ∧ (∀ j : Int, 0 ≤ j → j ≤ 10 → aI f1 (ad 4) (44 * fI f0 a0 5 + j) = TWd (aI f0 (ad 4)) (44 * x1) x2 (44 * x1 + j))))))) ([.ref a0, .int (iI x1), .int (iI x2)] : List Value).toArray s 0 0 A) (F0 m 243 ls []) := by
            intro L fw243 hs hE h4 i2 u5 ra rb tl wa wb H locs ls hw hl
            obtain ⟨x_25, lx_25, ux_25, hx_25, ex_25⟩ := q_inc y7_215 (-1)
            try (replace ex_25 : x_25 = y7_215 + (-1) := by omega)
            refine lv_iinc (v := iI x_25) (lv' := [(7, .int (iI x_25)), (0, .ref a0), (1, .int (iI x1)), (2, .int (iI x2))]) hx hb dX10_split_243 hl (k := 3) rfl hx_25 (by decide) rfl (fun ls hl => ?_)
            refine lv_goto (tgt := 215) hx hb dX10_split_246 (by decide) ?_
            exact ih215 x_25 lx_25 ux_25 L0 fw243 hs hE h4 (by omega) (by omega) (by omega) (by exact ra) (by exact rb) (by first | (intro i q0 q1; exfalso; omega) | exact fun i q0 q1 => tl i (by omega) q1 | fail "none") (by exact wa) (by exact wb) (by omega) _ _ _ hw (lv_sub hl [1, 2, 3, 0] rfl)
          refine q_icmp_lt (tgt := 243) hx hb dX10_split_233 (by decide) ⟨lx_24, ux_24⟩ ⟨lx2, ux2⟩ (fun c233 => ?_) (fun c233 => ?_)
          · exact J243 L0 fw215 hs hE h4 (by omega) (by omega) (by first | exact ra | exact ra' | fail "none") (by first | exact rb | exact rb' | fail "none") (by first | (intro i q0 q1; exact (Decidable.em (i = y7_215)).elim (fun ei => by rw [ei, g229]; omega) (fun ei => tl i (by omega) q1)) | (intro i q0 q1; rw [rl i (by omega) q1]; exact tl (i + 1) (by omega) (by omega)) | fail "none") (by first | exact wa | exact wa' | fail "none") (by first | exact wb | exact wb' | fail "none") _ _ _ hw (lv_sub hl [0, 1, 2, 3] rfl)
          · refine lv_aload_n hx hb dX10_split_236 rfl (lv_at hl 0 rfl) ?_
            refine lv_iload_n hx hb dX10_split_237 rfl (lv_at hl 1 rfl) ?_
            refine lv_iload hx hb dX10_split_238 (lv_at hl 3 rfl) ?_
            refine q_call_v hA hK hw (va_runV (As := [.int (iI x1), .int (iI y7_215)]) (rest := []) ⟨hx, hb, hml, hown, hts⟩ (c_X10_forgets zo l D cy L0 fw215 a0 x1 lx1 ux1 y7_215 ly7_215 uy7_215 ad hs (by omega) (by omega) (by omega) (by omega) (by omega) _) (cwV 2 hts (gT (inV (mr28 _ (List.mem_of_getElem? (i := 23) rfl)) (mr29 _ (List.mem_of_getElem? (i := 0) rfl)) (mr29 _ (List.mem_of_getElem? (i := 1) rfl)) (mr1 _ (List.mem_of_getElem? (i := 5) rfl)) (mr29 _ (List.mem_of_getElem? (i := 2) rfl)))) rfl rfl rfl (by decide +kernel) ⟨Nat.le_of_ble_eq_true rfl, Nat.le_of_ble_eq_true rfl⟩) (Wd.preV zo hA hZ hw hK hs.1 hs.2.1 rfl) rfl rfl hl.1 rfl (lv_room (Nat.le_of_ble_eq_true rfl)) dX10_split_240 ⟨Nat.le_of_ble_eq_true rfl, Nat.le_of_ble_eq_true rfl⟩) (fun L1 f_27 H locs ex_26 hw => ?_)
            obtain ⟨rfl, hs, hX, ex_26⟩ := ex_26
            have hE := hE.trans (hX.mono (rs' := [4, 12, 13]) (fs' := [5, 10]) (by decide) (by decide))
            have t5_f_27 : fI f_27 a0 5 = fI fw215 a0 5 := hX.2 5 (by decide)
            obtain ⟨fa, fb, fc⟩ := ex_26
            obtain ⟨ra', rk, rl⟩ := ra.forget (g' := aI f_27 (ad 4)) (k := y7_215) (by omega) (by omega) fa (fun x q0 q1 => fb x q0 q1) (fun x q0 q1 q2 => fc x (by omega) q2 (Or.inl q1))
            have rb' : RP (fun k => x2 ≤ k) (aI f_27 (ad 4)) (44 * fI f0 a0 5) := rb.same (fun x q0 q1 => fc x (by omega) (by omega) (by omega))
            have h4 : ∀ x : Int, 0 ≤ x → (x < 44 * fI f0 a0 5 ∧ (x < 44 * x1 ∨ 44 * x1 + 43 < x)) → aI f_27 (ad 4) x = aI f0 (ad 4) x := fun x q0 q1 => (fc x q0 (by omega) (by omega)).trans (h4 x q0 q1)
            have wa' := fun j q0 q1 => (fc (44 * x1 + j) (by omega) (by omega) (by omega)).trans (wa j q0 q1)
            have wb' := fun j q0 q1 => (fc (44 * fI f0 a0 5 + j) (by omega) (by omega) (by omega)).trans (wb j q0 q1)
            exact J243 L0 f_27 hs hE h4 (by omega) (by omega) (by first | exact ra | exact ra' | fail "none") (by first | exact rb | exact rb' | fail "none") (by first | (intro i q0 q1; exact (Decidable.em (i = y7_215)).elim (fun ei => by rw [ei, g229]; omega) (fun ei => tl i (by omega) q1)) | (intro i q0 q1; rw [rl i (by omega) q1]; exact tl (i + 1) (by omega) (by omega)) | fail "none") (by first | exact wa | exact wa' | fail "none") (by first | exact wb | exact wb' | fail "none") _ _ _ hw (lv_sub hl [0, 1, 2, 3] rfl)
    exact J215 (((x_21 + (2147483648 : Int)).toNat) + 1) x_21 lx_21 ux_21 L0 f_19 hs hE h4 (by omega) (by omega) (by omega) (by exact ra) (by exact rb) (by first | (intro i q0 q1; exfalso; omega) | exact fun i q0 q1 => tl i (by omega) q1 | fail "none") (by exact wa) (by exact wb) (by omega) _ _ _ hw (lv_sub hl [1, 2, 3, 0] rfl)
  have J77 : ∀ (z3_77 : Int) (lz3_77 : -2147483648 ≤ z3_77) (uz3_77 : z3_77 ≤ 2147483647) (z4_77 : Int) (lz4_77 : -2147483648 ≤ z4_77) (uz4_77 : z4_77 ≤ 2147483647) (L : List Nat) (fw77 : Nat → va_E) (hs : MS cy L0 fw77 a0 ad) (hE : Kp a0 ad [4, 12, 13] [5, 10] f0 fw77) (h4 : ∀ x : Int, 0 ≤ x → (x < 44 * fI f0 a0 5 ∧ (x < 44 * x1 ∨ 44 * x1 + 43 < x)) → aI fw77 (ad 4) x = aI f0 (ad 4) x) (b1 : 0 ≤ x1) (b2 : x1 < fI f0 a0 5) (b3 : fI f0 a0 5 ≤ 11) (d1 : 0 ≤ x2) (d2 : x2 ≤ 36524) (u5 : fI fw77 a0 5 = fI f0 a0 5) (q4 : ∀ x : Int, aI fw77 (ad 4) x = aI f0 (ad 4) x) (nh : z4_77 = cn (KG (aI f0 (ad 4)) (44 * x1)) 0 x2) (na : z3_77 = cn (KG (aI f0 (ad 4)) (44 * x1)) 0 36525) (nz : cn (KG (aI f0 (ad 4)) (44 * x1)) 0 x2 ≠ 0) (ny : cn (KG (aI f0 (ad 4)) (44 * x1)) x2 36525 ≠ 0) (nb0 : 0 ≤ z4_77) (nb1 : z4_77 ≤ 36525) (nc0 : 0 ≤ z3_77) (nc1 : z3_77 ≤ 36525) (H : Heap) (locs : List Loc) (ls : Array Slot) (hw : Wd D A s.heap L0 fw77 H locs) (hl : lv_has ls 8 [(0, .ref a0), (1, .int (iI x1)), (2, .int (iI x2)), (3, .int (iI z3_77)), (4, .int (iI z4_77))]), W p l e ({ frames := 3, cells := 0, slots := 0, locals := 74 } : Room) s m ([.ref a0, .int (iI x1), .int (iI x2)] : List Value).toArray below meth c H locs (0) (0) (MQ below (Qi D (tq cy) L0 f0 s.heap.size (fun (r : Int) (L1 : List Nat) (f1 : Nat → va_E) => L0 = L1 ∧ MS cy L0 f1 a0 ad ∧ Kp a0 ad [4, 12, 13] [5, 10] f0 f1 ∧ (MV f1 a0 ad ∧ ((r = -1 ∧ (x1 < 0 ∨ fI f0 a0 5 ≤ x1 ∨ x2 < 0 ∨ 36524 < x2 ∨ 12 ≤ fI f0 a0 5 ∨ cn (KG (aI f0 (ad 4)) (44 * x1)) 0 x2 = 0 ∨ cn (KG (aI f0 (ad 4)) (44 * x1)) x2 36525 = 0) ∧ fI f1 a0 5 = fI f0 a0 5 ∧ ∀ x : Int, aI f1 (ad 4) x = aI f0 (ad 4) x) ∨ (r = fI f0 a0 5 ∧ 0 ≤ x1 ∧ x1 < fI f0 a0 5 ∧ 0 ≤ x2 ∧ x2 ≤ 36524 ∧ fI f0 a0 5 < 12 ∧ cn (KG (aI f0 (ad 4)) (44 * x1)) 0 x2 ≠ 0 ∧ cn (KG (aI f0 (ad 4)) (44 * x1)) x2 36525 ≠ 0 ∧ fI f1 a0 5 = fI f0 a0 5 + 1 ∧ (∀ x : Int, 0 ≤ x → (x < 44 * fI f0 a0 5 ∧ (x < 44 * x1 ∨ 44 * x1 + 43 < x)) → aI f1 (ad 4) x = aI f0 (ad 4) x) ∧ (∀ j : Int, 0 ≤ j → j ≤ 10 → aI f1 (ad 4) (44 * x1 + j) = HWd (aI f0 (ad 4)) (44 * x1) x2 (44 * x1 + j)) ∧ (∀ j : Int, 0 ≤ j → j ≤ 10 → aI f1 (ad 4) (44 * fI f0 a0 5 + j) = TWd (aI f0 (ad 4)) (44 * x1) x2 (44 * x1 + j))))))) ([.ref a0, .int (iI x1), .int (iI x2)] : List Value).toArray s 0 0 A) (F0 m 77 ls []) := by
    intro z3_77 lz3_77 uz3_77 z4_77 lz4_77 uz4_77 L fw77 hs hE h4 b1 b2 b3 d1 d2 u5 q4 nh na nz ny nb0 nb1 nc0 nc1 H locs ls hw hl
    have rv := hv.row x1 b1 b2
    have ro := hv.at b1 b2
    refine q_bipush hx hb dX10_split_77 rfl ?_
    refine lv_iload_n hx hb dX10_split_79 rfl (lv_at hl 1 rfl) ?_
    first | refine q_imul hx hb dX10_split_80 ⟨by omega, by omega⟩ (fun x_28 lx_28 ux_28 ex_28 => ?_) | refine q_imulw hx hb dX10_split_80 (fun x_28 lx_28 ux_28 ex_28 => ?_)
    refine lv_istore (lv' := [(5, .int (iI x_28)), (0, .ref a0), (1, .int (iI x1)), (2, .int (iI x2)), (3, .int (iI z3_77)), (4, .int (iI z4_77))]) hx hb dX10_split_81 hl (by decide) rfl (fun ls hl => ?_)
    refine q_bipush hx hb dX10_split_83 rfl ?_
    refine lv_aload_n hx hb dX10_split_85 rfl (lv_at hl 1 rfl) ?_
    refine q_geti (ci := 8) (C := RX10) (T := TX10) (N := 26) hx hb hts (fun w h => List.mem_cons_of_mem _ (mfX100 w h)) hown hK hw hs.1 hs.2.1 rfl 5 (by decide) (hts _ (List.mem_cons_of_mem _ (mr19 _ (List.mem_of_getElem? (i := 1) rfl)))) (fun _ h => h) rfl dX10_split_86 (fun x_29 lx_29 ux_29 ex_29 => ?_)
    first | refine q_imul hx hb dX10_split_89 ⟨by omega, by omega⟩ (fun x_30 lx_30 ux_30 ex_30 => ?_) | refine q_imulw hx hb dX10_split_89 (fun x_30 lx_30 ux_30 ex_30 => ?_)
    refine lv_istore (lv' := [(6, .int (iI x_30)), (5, .int (iI x_28)), (0, .ref a0), (1, .int (iI x1)), (2, .int (iI x2)), (3, .int (iI z3_77)), (4, .int (iI z4_77))]) hx hb dX10_split_90 hl (by decide) rfl (fun ls hl => ?_)
    refine q_iconst hx hb dX10_split_92 ?_
    refine lv_istore (lv' := [(7, .int (iI 0)), (6, .int (iI x_30)), (5, .int (iI x_28)), (0, .ref a0), (1, .int (iI x1)), (2, .int (iI x2)), (3, .int (iI z3_77)), (4, .int (iI z4_77))]) hx hb dX10_split_93 hl (by decide) rfl (fun ls hl => ?_)
    have J95 : ∀ (n95 : Nat) (y7_95 : Int) (ly7_95 : -2147483648 ≤ y7_95) (uy7_95 : y7_95 ≤ 2147483647) (L : List Nat) (fw95 : Nat → va_E) (hs : MS cy L0 fw95 a0 ad) (hE : Kp a0 ad [4, 12, 13] [5, 10] f0 fw95) (h4 : ∀ x : Int, 0 ≤ x → (x < 44 * fI f0 a0 5 ∧ (x < 44 * x1 ∨ 44 * x1 + 43 < x)) → aI fw95 (ad 4) x = aI f0 (ad 4) x) (i1 : 0 ≤ y7_95) (i2 : y7_95 ≤ 44) (u5 : fI fw95 a0 5 = fI f0 a0 5) (cp : ∀ j : Int, 0 ≤ j → j < y7_95 → aI fw95 (ad 4) (44 * fI f0 a0 5 + j) = aI f0 (ad 4) (44 * x1 + j)) (cr : ∀ j : Int, 0 ≤ j → j ≤ 43 → aI fw95 (ad 4) (44 * x1 + j) = aI f0 (ad 4) (44 * x1 + j)) (hn95 : ((2147483647 : Int) - y7_95).toNat < n95) (H : Heap) (locs : List Loc) (ls : Array Slot) (hw : Wd D A s.heap L0 fw95 H locs) (hl : lv_has ls 8 [(0, .ref a0), (1, .int (iI x1)), (2, .int (iI x2)), (3, .int (iI z3_77)), (4, .int (iI z4_77)), (5, .int (iI x_28)), (6, .int (iI x_30)), (7, .int (iI y7_95))]), W p l e ({ frames := 3, cells := 0, slots := 0, locals := 74 } : Room) s m ([.ref a0, .int (iI x1), .int (iI x2)] : List Value).toArray below meth c H locs (0) (0) (MQ below (Qi D (tq cy) L0 f0 s.heap.size (fun (r : Int) (L1 : List Nat) (f1 : Nat → va_E) => L0 = L1 ∧ MS cy L0 f1 a0 ad ∧ Kp a0 ad [4, 12, 13] [5, 10] f0 f1 ∧ (MV f1 a0 ad ∧ ((r = -1 ∧ (x1 < 0 ∨ fI f0 a0 5 ≤ x1 ∨ x2 < 0 ∨ 36524 < x2 ∨ 12 ≤ fI f0 a0 5 ∨ cn (KG (aI f0 (ad 4)) (44 * x1)) 0 x2 = 0 ∨ cn (KG (aI f0 (ad 4)) (44 * x1)) x2 36525 = 0) ∧ fI f1 a0 5 = fI f0 a0 5 ∧ ∀ x : Int, aI f1 (ad 4) x = aI f0 (ad 4) x) ∨ (r = fI f0 a0 5 ∧ 0 ≤ x1 ∧ x1 < fI f0 a0 5 ∧ 0 ≤ x2 ∧ x2 ≤ 36524 ∧ fI f0 a0 5 < 12 ∧ cn (KG (aI f0 (ad 4)) (44 * x1)) 0 x2 ≠ 0 ∧ cn (KG (aI f0 (ad 4)) (44 * x1)) x2 36525 ≠ 0 ∧ fI f1 a0 5 = fI f0 a0 5 + 1 ∧ (∀ x : Int, 0 ≤ x → (x < 44 * fI f0 a0 5 ∧ (x < 44 * x1 ∨ 44 * x1 + 43 < x)) → aI f1 (ad 4) x = aI f0 (ad 4) x) ∧ (∀ j : Int, 0 ≤ j → j ≤ 10 → aI f1 (ad 4) (44 * x1 + j) = HWd (aI f0 (ad 4)) (44 * x1) x2 (44 * x1 + j)) ∧ (∀ j : Int, 0 ≤ j → j ≤ 10 → aI f1 (ad 4) (44 * fI f0 a0 5 + j) = TWd (aI f0 (ad 4)) (44 * x1) x2 (44 * x1 + j))))))) ([.ref a0, .int (iI x1), .int (iI x2)] : List Value).toArray s 0 0 A) (F0 m 95 ls []) := by
      intro n95
      induction n95 with
      | zero => intro y7_95 ly7_95 uy7_95 L fw95 hs hE h4 i1 i2 u5 cp cr hn95; exact absurd hn95 (Nat.not_lt_zero _)
      | succ n95 ih95 =>
        intro y7_95 ly7_95 uy7_95 L fw95 hs hE h4 i1 i2 u5 cp cr hn95 H locs ls hw hl
        refine lv_iload hx hb dX10_split_95 (lv_at hl 7 rfl) ?_
        refine q_bipush hx hb dX10_split_97 rfl ?_
        refine q_icmp_ge (tgt := 128) hx hb dX10_split_99 (by decide) ⟨ly7_95, uy7_95⟩ ⟨by decide, by decide⟩ (fun c99 => ?_) (fun c99 => ?_)
        · refine lv_aload_n hx hb dX10_split_128 rfl (lv_at hl 0 rfl) ?_
          refine q_getr (ci := 8) (C := RX10) (T := TX10) (N := 26) hx hb hts (fun w h => List.mem_cons_of_mem _ (mfX100 w h)) hown hK hw hs.1 hs.2.1 rfl 4 (by decide) (hts _ (List.mem_cons_of_mem _ (mr3 _ (List.mem_of_getElem? (i := 14) rfl)))) (fun _ h => h) rfl (hs.2.2.1 4 rfl).1 dX10_split_129 ?_
          refine lv_iload hx hb dX10_split_132 (lv_at hl 6 rfl) ?_
          refine q_bipush hx hb dX10_split_134 rfl ?_
          first | refine q_iadd hx hb dX10_split_136 ⟨by omega, by omega⟩ (fun x_31 lx_31 ux_31 ex_31 => ?_) | refine q_iaddw hx hb dX10_split_136 (fun x_31 lx_31 ux_31 ex_31 => ?_)
          refine lv_iload_n hx hb dX10_split_137 rfl (lv_at hl 2 rfl) ?_
          refine q_iast hx hb hK hw (hs.2.2.1 4 rfl).2.1 1 (hs.2.2.1 4 rfl).2.2 rfl ⟨lx_31, ux_31⟩ (by omega) (by show _ < ((528 : Nat) : Int); omega) dX10_split_138 (fun H locs hw => ?_)
          obtain ⟨f_32, ef_32⟩ : ∃ g : Nat → va_E, g = aU fw95 (ad 4) x_31 (iI x2) := ⟨_, rfl⟩
          have t5_f_32 : fI f_32 a0 5 = fI fw95 a0 5 := by rw [ef_32]; exact hs.fI_aU rfl _ _
          have hE := hE.trans (show Kp a0 ad [4, 12, 13] [5, 10] fw95 f_32 by rw [ef_32]; exact Kp_aU hs rfl (by decide))
          have hs_ := hs
          have hs : MS cy L0 f_32 a0 ad := by rw [ef_32]; exact MS_aU hs rfl
          rw [← ef_32] at hw
          have h4 : ∀ x : Int, 0 ≤ x → (x < 44 * fI f0 a0 5 ∧ (x < 44 * x1 ∨ 44 * x1 + 43 < x)) → aI f_32 (ad 4) x = aI f0 (ad 4) x := fun x q0 q1 => Eq.trans (by rw [ef_32]; exact hs_.aI_nj rfl (by omega) q0 (by omega)) (h4 x q0 q1)
          have n138 : ∀ x : Int, 0 ≤ x → x ≠ 44 * fI f0 a0 5 + 10 → aI f_32 (ad 4) x = aI fw95 (ad 4) x := fun x q0 q1 => by rw [ef_32]; exact hs_.aI_nj rfl (by omega) q0 (by omega)
          have v138 : aI f_32 (ad 4) (44 * fI f0 a0 5 + 10) = x2 := (aI_cg (show 44 * fI f0 a0 5 + 10 = x_31 by omega)).trans (Eq.trans (by rw [ef_32]; exact hs_.aI_self rfl ⟨by omega, by omega⟩) (show x2 = x2 by omega))
          refine lv_aload_n hx hb dX10_split_139 rfl (lv_at hl 0 rfl) ?_
          refine q_getr (ci := 8) (C := RX10) (T := TX10) (N := 26) hx hb hts (fun w h => List.mem_cons_of_mem _ (mfX100 w h)) hown hK hw hs.1 hs.2.1 rfl 4 (by decide) (hts _ (List.mem_cons_of_mem _ (mr3 _ (List.mem_of_getElem? (i := 14) rfl)))) (fun _ h => h) rfl (hs.2.2.1 4 rfl).1 dX10_split_140 ?_
          refine lv_iload hx hb dX10_split_143 (lv_at hl 5 rfl) ?_
          refine q_bipush hx hb dX10_split_145 rfl ?_
          first | refine q_iadd hx hb dX10_split_147 ⟨by omega, by omega⟩ (fun x_33 lx_33 ux_33 ex_33 => ?_) | refine q_iaddw hx hb dX10_split_147 (fun x_33 lx_33 ux_33 ex_33 => ?_)
          refine q_iald hx hb hK hw (hs.2.2.1 4 rfl).2.1 1 (hs.2.2.1 4 rfl).2.2 rfl ⟨lx_33, ux_33⟩ (by omega) (by show _ < ((528 : Nat) : Int); omega) dX10_split_148 (fun x_34 lx_34 ux_34 ex_34 => ?_)
          have g148 : x_34 = aI f0 (ad 4) (44 * x1 + 9) := ex_34.trans ((aI_cg (show _ = 44 * x1 + 9 by omega)).trans ((n138 (44 * x1 + 9) (by omega) (by omega)).trans (cr 9 (by omega) (by omega))))
          refine q_if_lt (tgt := 181) hx hb dX10_split_149 (by decide) ⟨lx_34, ux_34⟩ (fun c149 => ?_) (fun c149 => ?_)
          · refine lv_aload_n hx hb dX10_split_181 rfl (lv_at hl 0 rfl) ?_
            refine q_getr (ci := 8) (C := RX10) (T := TX10) (N := 26) hx hb hts (fun w h => List.mem_cons_of_mem _ (mfX100 w h)) hown hK hw hs.1 hs.2.1 rfl 4 (by decide) (hts _ (List.mem_cons_of_mem _ (mr3 _ (List.mem_of_getElem? (i := 14) rfl)))) (fun _ h => h) rfl (hs.2.2.1 4 rfl).1 dX10_split_182 ?_
            refine lv_iload hx hb dX10_split_185 (lv_at hl 5 rfl) ?_
            refine q_bipush hx hb dX10_split_187 rfl ?_
            first | refine q_iadd hx hb dX10_split_189 ⟨by omega, by omega⟩ (fun x_35 lx_35 ux_35 ex_35 => ?_) | refine q_iaddw hx hb dX10_split_189 (fun x_35 lx_35 ux_35 ex_35 => ?_)
            refine lv_iload_n hx hb dX10_split_190 rfl (lv_at hl 2 rfl) ?_
            refine q_iconst hx hb dX10_split_191 ?_
            first | refine q_isub hx hb dX10_split_192 ⟨by omega, by omega⟩ (fun x_36 lx_36 ux_36 ex_36 => ?_) | refine q_isubw hx hb dX10_split_192 (fun x_36 lx_36 ux_36 ex_36 => ?_)
            refine q_iast hx hb hK hw (hs.2.2.1 4 rfl).2.1 1 (hs.2.2.1 4 rfl).2.2 rfl ⟨lx_35, ux_35⟩ (by omega) (by show _ < ((528 : Nat) : Int); omega) dX10_split_193 (fun H locs hw => ?_)
            obtain ⟨f_37, ef_37⟩ : ∃ g : Nat → va_E, g = aU f_32 (ad 4) x_35 (iI x_36) := ⟨_, rfl⟩
            have t5_f_37 : fI f_37 a0 5 = fI f_32 a0 5 := by rw [ef_37]; exact hs.fI_aU rfl _ _
            have hE := hE.trans (show Kp a0 ad [4, 12, 13] [5, 10] f_32 f_37 by rw [ef_37]; exact Kp_aU hs rfl (by decide))
            have hs_ := hs
            have hs : MS cy L0 f_37 a0 ad := by rw [ef_37]; exact MS_aU hs rfl
            rw [← ef_37] at hw
            have h4 : ∀ x : Int, 0 ≤ x → (x < 44 * fI f0 a0 5 ∧ (x < 44 * x1 ∨ 44 * x1 + 43 < x)) → aI f_37 (ad 4) x = aI f0 (ad 4) x := fun x q0 q1 => Eq.trans (by rw [ef_37]; exact hs_.aI_nj rfl (by omega) q0 (by omega)) (h4 x q0 q1)
            have n193 : ∀ x : Int, 0 ≤ x → x ≠ 44 * x1 + 8 → aI f_37 (ad 4) x = aI f_32 (ad 4) x := fun x q0 q1 => by rw [ef_37]; exact hs_.aI_nj rfl (by omega) q0 (by omega)
            have v193 : aI f_37 (ad 4) (44 * x1 + 8) = x2 - 1 := (aI_cg (show 44 * x1 + 8 = x_35 by omega)).trans (Eq.trans (by rw [ef_37]; exact hs_.aI_self rfl ⟨by omega, by omega⟩) (show x_36 = x2 - 1 by omega))
            exact J194 L0 f_37 hs hE h4 (by omega) (by omega) (by omega) (by omega) (by omega) (by omega) (by first | exact RP.head (P := fun k => k < x2) ro (aI f0 (ad 4) (44 * x1 + 8)) (aI f0 (ad 4) (44 * x1 + 10)) ((n177 _ (by omega) (by omega)).trans ((n165 _ (by omega) (by omega)).trans ((n138 _ (by omega) (by omega)).trans (cr 8 (by omega) (by omega))))) ((n177 _ (by omega) (by omega)).trans ((n165 _ (by omega) (by omega)).trans ((n138 _ (by omega) (by omega)).trans (cr 10 (by omega) (by omega))))) (by omega) (by omega) (by omega) (by omega) (fun j q0 q1 q2 q3 q4 => ((n177 _ (by omega) (by omega)).trans ((n165 _ (by omega) (by omega)).trans ((n138 _ (by omega) (by omega)).trans (cr j q0 q1))))) (fun x _ p2 p3 p4 => ⟨p2, p3, p4⟩) | exact RP.head (P := fun k => k < x2) ro (x2 - 1) (aI f0 (ad 4) (44 * x1 + 10)) v193 ((n193 _ (by omega) (by omega)).trans ((n138 _ (by omega) (by omega)).trans (cr 10 (by omega) (by omega)))) (by omega) (by omega) (by omega) (by omega) (fun j q0 q1 q2 q3 q4 => ((n193 _ (by omega) (by omega)).trans ((n138 _ (by omega) (by omega)).trans (cr j q0 q1)))) (fun x p1 p2 _ _ => ⟨p2, fun _ => by have p1 : x < x2 := p1; omega, fun _ => by have p1 : x < x2 := p1; omega⟩)) (by first | exact RP.head (P := fun k => x2 ≤ k) ro (aI f0 (ad 4) (44 * x1 + 8)) (x2) ((n177 _ (by omega) (by omega)).trans ((n165 _ (by omega) (by omega)).trans ((n138 _ (by omega) (by omega)).trans (cp 8 (by omega) (by omega))))) ((n177 _ (by omega) (by omega)).trans ((n165 _ (by omega) (by omega)).trans v138)) (by omega) (by omega) (by omega) (by omega) (fun j q0 q1 q2 q3 q4 => ((n177 _ (by omega) (by omega)).trans ((n165 _ (by omega) (by omega)).trans ((n138 _ (by omega) (by omega)).trans (cp j q0 (by omega)))))) (fun x p1 _ p3 p4 => ⟨p1, p3, p4⟩) | exact RP.head (P := fun k => x2 ≤ k) ro (aI f0 (ad 4) (44 * x1 + 8)) (x2) ((n193 _ (by omega) (by omega)).trans ((n138 _ (by omega) (by omega)).trans (cp 8 (by omega) (by omega)))) ((n193 _ (by omega) (by omega)).trans v138) (by omega) (by omega) (by omega) (by omega) (fun j q0 q1 q2 q3 q4 => ((n193 _ (by omega) (by omega)).trans ((n138 _ (by omega) (by omega)).trans (cp j q0 (by omega))))) (fun x p1 _ p3 p4 => ⟨p1, p3, p4⟩)) (by omega) (by omega) (by first | exact wa_t (by omega) v177 nh (fun j q0 q1 q2 => ((n177 _ (by omega) (by omega)).trans ((n165 _ (by omega) (by omega)).trans ((n138 _ (by omega) (by omega)).trans (cr j q0 (by omega)))))) | exact wa_u (by omega) v193 (fun j q0 q1 q2 => ((n193 _ (by omega) (by omega)).trans ((n138 _ (by omega) (by omega)).trans (cr j q0 (by omega)))))) (by first | exact wb_t (by omega) (((n177 _ (by omega) (by omega)).trans v165)) (by omega) (((n177 _ (by omega) (by omega)).trans ((n165 _ (by omega) (by omega)).trans v138))) (fun j q0 q1 q2 q3 => ((n177 _ (by omega) (by omega)).trans ((n165 _ (by omega) (by omega)).trans ((n138 _ (by omega) (by omega)).trans (cp j q0 (by omega)))))) | exact wb_u (by omega) (((n193 _ (by omega) (by omega)).trans v138)) (fun j q0 q1 q2 => ((n193 _ (by omega) (by omega)).trans ((n138 _ (by omega) (by omega)).trans (cp j q0 (by omega)))))) _ _ _ hw (lv_sub hl [0, 1, 2] rfl)
          · refine lv_aload_n hx hb dX10_split_152 rfl (lv_at hl 0 rfl) ?_
            refine q_getr (ci := 8) (C := RX10) (T := TX10) (N := 26) hx hb hts (fun w h => List.mem_cons_of_mem _ (mfX100 w h)) hown hK hw hs.1 hs.2.1 rfl 4 (by decide) (hts _ (List.mem_cons_of_mem _ (mr3 _ (List.mem_of_getElem? (i := 14) rfl)))) (fun _ h => h) rfl (hs.2.2.1 4 rfl).1 dX10_split_153 ?_
            refine lv_iload hx hb dX10_split_156 (lv_at hl 6 rfl) ?_
            refine q_bipush hx hb dX10_split_158 rfl ?_
            first | refine q_iadd hx hb dX10_split_160 ⟨by omega, by omega⟩ (fun x_38 lx_38 ux_38 ex_38 => ?_) | refine q_iaddw hx hb dX10_split_160 (fun x_38 lx_38 ux_38 ex_38 => ?_)
            refine lv_iload_n hx hb dX10_split_161 rfl (lv_at hl 3 rfl) ?_
            refine lv_iload hx hb dX10_split_162 (lv_at hl 4 rfl) ?_
            first | refine q_isub hx hb dX10_split_164 ⟨by omega, by omega⟩ (fun x_39 lx_39 ux_39 ex_39 => ?_) | refine q_isubw hx hb dX10_split_164 (fun x_39 lx_39 ux_39 ex_39 => ?_)
            refine q_iast hx hb hK hw (hs.2.2.1 4 rfl).2.1 1 (hs.2.2.1 4 rfl).2.2 rfl ⟨lx_38, ux_38⟩ (by omega) (by show _ < ((528 : Nat) : Int); omega) dX10_split_165 (fun H locs hw => ?_)
            obtain ⟨f_40, ef_40⟩ : ∃ g : Nat → va_E, g = aU f_32 (ad 4) x_38 (iI x_39) := ⟨_, rfl⟩
            have t5_f_40 : fI f_40 a0 5 = fI f_32 a0 5 := by rw [ef_40]; exact hs.fI_aU rfl _ _
            have hE := hE.trans (show Kp a0 ad [4, 12, 13] [5, 10] f_32 f_40 by rw [ef_40]; exact Kp_aU hs rfl (by decide))
            have hs_ := hs
            have hs : MS cy L0 f_40 a0 ad := by rw [ef_40]; exact MS_aU hs rfl
            rw [← ef_40] at hw
            have h4 : ∀ x : Int, 0 ≤ x → (x < 44 * fI f0 a0 5 ∧ (x < 44 * x1 ∨ 44 * x1 + 43 < x)) → aI f_40 (ad 4) x = aI f0 (ad 4) x := fun x q0 q1 => Eq.trans (by rw [ef_40]; exact hs_.aI_nj rfl (by omega) q0 (by omega)) (h4 x q0 q1)
            have n165 : ∀ x : Int, 0 ≤ x → x ≠ 44 * fI f0 a0 5 + 9 → aI f_40 (ad 4) x = aI f_32 (ad 4) x := fun x q0 q1 => by rw [ef_40]; exact hs_.aI_nj rfl (by omega) q0 (by omega)
            have v165 : aI f_40 (ad 4) (44 * fI f0 a0 5 + 9) = x_39 := (aI_cg (show 44 * fI f0 a0 5 + 9 = x_38 by omega)).trans (Eq.trans (by rw [ef_40]; exact hs_.aI_self rfl ⟨by omega, by omega⟩) (show x_39 = x_39 by omega))
            refine lv_aload_n hx hb dX10_split_166 rfl (lv_at hl 0 rfl) ?_
            refine q_getr (ci := 8) (C := RX10) (T := TX10) (N := 26) hx hb hts (fun w h => List.mem_cons_of_mem _ (mfX100 w h)) hown hK hw hs.1 hs.2.1 rfl 4 (by decide) (hts _ (List.mem_cons_of_mem _ (mr3 _ (List.mem_of_getElem? (i := 14) rfl)))) (fun _ h => h) rfl (hs.2.2.1 4 rfl).1 dX10_split_167 ?_
            refine lv_iload hx hb dX10_split_170 (lv_at hl 5 rfl) ?_
            refine q_bipush hx hb dX10_split_172 rfl ?_
            first | refine q_iadd hx hb dX10_split_174 ⟨by omega, by omega⟩ (fun x_41 lx_41 ux_41 ex_41 => ?_) | refine q_iaddw hx hb dX10_split_174 (fun x_41 lx_41 ux_41 ex_41 => ?_)
            refine lv_iload hx hb dX10_split_175 (lv_at hl 4 rfl) ?_
            refine q_iast hx hb hK hw (hs.2.2.1 4 rfl).2.1 1 (hs.2.2.1 4 rfl).2.2 rfl ⟨lx_41, ux_41⟩ (by omega) (by show _ < ((528 : Nat) : Int); omega) dX10_split_177 (fun H locs hw => ?_)
            obtain ⟨f_42, ef_42⟩ : ∃ g : Nat → va_E, g = aU f_40 (ad 4) x_41 (iI z4_77) := ⟨_, rfl⟩
            have t5_f_42 : fI f_42 a0 5 = fI f_40 a0 5 := by rw [ef_42]; exact hs.fI_aU rfl _ _
            have hE := hE.trans (show Kp a0 ad [4, 12, 13] [5, 10] f_40 f_42 by rw [ef_42]; exact Kp_aU hs rfl (by decide))
            have hs_ := hs
            have hs : MS cy L0 f_42 a0 ad := by rw [ef_42]; exact MS_aU hs rfl
            rw [← ef_42] at hw
            have h4 : ∀ x : Int, 0 ≤ x → (x < 44 * fI f0 a0 5 ∧ (x < 44 * x1 ∨ 44 * x1 + 43 < x)) → aI f_42 (ad 4) x = aI f0 (ad 4) x := fun x q0 q1 => Eq.trans (by rw [ef_42]; exact hs_.aI_nj rfl (by omega) q0 (by omega)) (h4 x q0 q1)
            have n177 : ∀ x : Int, 0 ≤ x → x ≠ 44 * x1 + 9 → aI f_42 (ad 4) x = aI f_40 (ad 4) x := fun x q0 q1 => by rw [ef_42]; exact hs_.aI_nj rfl (by omega) q0 (by omega)
            have v177 : aI f_42 (ad 4) (44 * x1 + 9) = z4_77 := (aI_cg (show 44 * x1 + 9 = x_41 by omega)).trans (Eq.trans (by rw [ef_42]; exact hs_.aI_self rfl ⟨by omega, by omega⟩) (show z4_77 = z4_77 by omega))
            refine lv_goto (tgt := 194) hx hb dX10_split_178 (by decide) ?_
            exact J194 L0 f_42 hs hE h4 (by omega) (by omega) (by omega) (by omega) (by omega) (by omega) (by first | exact RP.head (P := fun k => k < x2) ro (aI f0 (ad 4) (44 * x1 + 8)) (aI f0 (ad 4) (44 * x1 + 10)) ((n177 _ (by omega) (by omega)).trans ((n165 _ (by omega) (by omega)).trans ((n138 _ (by omega) (by omega)).trans (cr 8 (by omega) (by omega))))) ((n177 _ (by omega) (by omega)).trans ((n165 _ (by omega) (by omega)).trans ((n138 _ (by omega) (by omega)).trans (cr 10 (by omega) (by omega))))) (by omega) (by omega) (by omega) (by omega) (fun j q0 q1 q2 q3 q4 => ((n177 _ (by omega) (by omega)).trans ((n165 _ (by omega) (by omega)).trans ((n138 _ (by omega) (by omega)).trans (cr j q0 q1))))) (fun x _ p2 p3 p4 => ⟨p2, p3, p4⟩) | exact RP.head (P := fun k => k < x2) ro (x2 - 1) (aI f0 (ad 4) (44 * x1 + 10)) v193 ((n193 _ (by omega) (by omega)).trans ((n138 _ (by omega) (by omega)).trans (cr 10 (by omega) (by omega)))) (by omega) (by omega) (by omega) (by omega) (fun j q0 q1 q2 q3 q4 => ((n193 _ (by omega) (by omega)).trans ((n138 _ (by omega) (by omega)).trans (cr j q0 q1)))) (fun x p1 p2 _ _ => ⟨p2, fun _ => by have p1 : x < x2 := p1; omega, fun _ => by have p1 : x < x2 := p1; omega⟩)) (by first | exact RP.head (P := fun k => x2 ≤ k) ro (aI f0 (ad 4) (44 * x1 + 8)) (x2) ((n177 _ (by omega) (by omega)).trans ((n165 _ (by omega) (by omega)).trans ((n138 _ (by omega) (by omega)).trans (cp 8 (by omega) (by omega))))) ((n177 _ (by omega) (by omega)).trans ((n165 _ (by omega) (by omega)).trans v138)) (by omega) (by omega) (by omega) (by omega) (fun j q0 q1 q2 q3 q4 => ((n177 _ (by omega) (by omega)).trans ((n165 _ (by omega) (by omega)).trans ((n138 _ (by omega) (by omega)).trans (cp j q0 (by omega)))))) (fun x p1 _ p3 p4 => ⟨p1, p3, p4⟩) | exact RP.head (P := fun k => x2 ≤ k) ro (aI f0 (ad 4) (44 * x1 + 8)) (x2) ((n193 _ (by omega) (by omega)).trans ((n138 _ (by omega) (by omega)).trans (cp 8 (by omega) (by omega)))) ((n193 _ (by omega) (by omega)).trans v138) (by omega) (by omega) (by omega) (by omega) (fun j q0 q1 q2 q3 q4 => ((n193 _ (by omega) (by omega)).trans ((n138 _ (by omega) (by omega)).trans (cp j q0 (by omega))))) (fun x p1 _ p3 p4 => ⟨p1, p3, p4⟩)) (by omega) (by omega) (by first | exact wa_t (by omega) v177 nh (fun j q0 q1 q2 => ((n177 _ (by omega) (by omega)).trans ((n165 _ (by omega) (by omega)).trans ((n138 _ (by omega) (by omega)).trans (cr j q0 (by omega)))))) | exact wa_u (by omega) v193 (fun j q0 q1 q2 => ((n193 _ (by omega) (by omega)).trans ((n138 _ (by omega) (by omega)).trans (cr j q0 (by omega)))))) (by first | exact wb_t (by omega) (((n177 _ (by omega) (by omega)).trans v165)) (by omega) (((n177 _ (by omega) (by omega)).trans ((n165 _ (by omega) (by omega)).trans v138))) (fun j q0 q1 q2 q3 => ((n177 _ (by omega) (by omega)).trans ((n165 _ (by omega) (by omega)).trans ((n138 _ (by omega) (by omega)).trans (cp j q0 (by omega)))))) | exact wb_u (by omega) (((n193 _ (by omega) (by omega)).trans v138)) (fun j q0 q1 q2 => ((n193 _ (by omega) (by omega)).trans ((n138 _ (by omega) (by omega)).trans (cp j q0 (by omega)))))) _ _ _ hw (lv_sub hl [0, 1, 2] rfl)
        · refine lv_aload_n hx hb dX10_split_102 rfl (lv_at hl 0 rfl) ?_
          refine q_getr (ci := 8) (C := RX10) (T := TX10) (N := 26) hx hb hts (fun w h => List.mem_cons_of_mem _ (mfX100 w h)) hown hK hw hs.1 hs.2.1 rfl 4 (by decide) (hts _ (List.mem_cons_of_mem _ (mr3 _ (List.mem_of_getElem? (i := 14) rfl)))) (fun _ h => h) rfl (hs.2.2.1 4 rfl).1 dX10_split_103 ?_
          refine lv_iload hx hb dX10_split_106 (lv_at hl 6 rfl) ?_
          refine lv_iload hx hb dX10_split_108 (lv_at hl 7 rfl) ?_
          first | refine q_iadd hx hb dX10_split_110 ⟨by omega, by omega⟩ (fun x_43 lx_43 ux_43 ex_43 => ?_) | refine q_iaddw hx hb dX10_split_110 (fun x_43 lx_43 ux_43 ex_43 => ?_)
          refine lv_aload_n hx hb dX10_split_111 rfl (lv_at hl 0 rfl) ?_
          refine q_getr (ci := 8) (C := RX10) (T := TX10) (N := 26) hx hb hts (fun w h => List.mem_cons_of_mem _ (mfX100 w h)) hown hK hw hs.1 hs.2.1 rfl 4 (by decide) (hts _ (List.mem_cons_of_mem _ (mr3 _ (List.mem_of_getElem? (i := 14) rfl)))) (fun _ h => h) rfl (hs.2.2.1 4 rfl).1 dX10_split_112 ?_
          refine lv_iload hx hb dX10_split_115 (lv_at hl 5 rfl) ?_
          refine lv_iload hx hb dX10_split_117 (lv_at hl 7 rfl) ?_
          first | refine q_iadd hx hb dX10_split_119 ⟨by omega, by omega⟩ (fun x_44 lx_44 ux_44 ex_44 => ?_) | refine q_iaddw hx hb dX10_split_119 (fun x_44 lx_44 ux_44 ex_44 => ?_)
          refine q_iald hx hb hK hw (hs.2.2.1 4 rfl).2.1 1 (hs.2.2.1 4 rfl).2.2 rfl ⟨lx_44, ux_44⟩ (by omega) (by show _ < ((528 : Nat) : Int); omega) dX10_split_120 (fun x_45 lx_45 ux_45 ex_45 => ?_)
          refine q_iast hx hb hK hw (hs.2.2.1 4 rfl).2.1 1 (hs.2.2.1 4 rfl).2.2 rfl ⟨lx_43, ux_43⟩ (by omega) (by show _ < ((528 : Nat) : Int); omega) dX10_split_121 (fun H locs hw => ?_)
          obtain ⟨f_46, ef_46⟩ : ∃ g : Nat → va_E, g = aU fw95 (ad 4) x_43 (iI x_45) := ⟨_, rfl⟩
          have t5_f_46 : fI f_46 a0 5 = fI fw95 a0 5 := by rw [ef_46]; exact hs.fI_aU rfl _ _
          have hE := hE.trans (show Kp a0 ad [4, 12, 13] [5, 10] fw95 f_46 by rw [ef_46]; exact Kp_aU hs rfl (by decide))
          have hs_ := hs
          have hs : MS cy L0 f_46 a0 ad := by rw [ef_46]; exact MS_aU hs rfl
          rw [← ef_46] at hw
          have h4 : ∀ x : Int, 0 ≤ x → (x < 44 * fI f0 a0 5 ∧ (x < 44 * x1 ∨ 44 * x1 + 43 < x)) → aI f_46 (ad 4) x = aI f0 (ad 4) x := fun x q0 q1 => Eq.trans (by rw [ef_46]; exact hs_.aI_nj rfl (by omega) q0 (by omega)) (h4 x q0 q1)
          have v121 : aI f_46 (ad 4) x_43 = aI f0 (ad 4) (44 * x1 + y7_95) := Eq.trans (by rw [ef_46]; exact hs_.aI_self rfl ⟨by omega, by omega⟩) (Eq.trans ex_45 (Eq.trans (aI_cg (by omega)) (cr y7_95 (by omega) (by omega))))
          have cp' : ∀ j : Int, 0 ≤ j → j < y7_95 + 1 → aI f_46 (ad 4) (44 * fI f0 a0 5 + j) = aI f0 (ad 4) (44 * x1 + j) := by
            intro j q0 q1
            by_cases ej : j = y7_95
            · rw [ej]; exact Eq.trans (aI_cg (by omega)) v121
            · exact Eq.trans (by rw [ef_46]; exact hs_.aI_nj rfl (by omega) (by omega) (by omega)) (cp j q0 (by omega))
          have cr' : ∀ j : Int, 0 ≤ j → j ≤ 43 → aI f_46 (ad 4) (44 * x1 + j) = aI f0 (ad 4) (44 * x1 + j) := fun j q0 q1 => Eq.trans (by rw [ef_46]; exact hs_.aI_nj rfl (by omega) (by omega) (by omega)) (cr j q0 q1)
          obtain ⟨x_47, lx_47, ux_47, hx_47, ex_47⟩ := q_inc y7_95 (1)
          try (replace ex_47 : x_47 = y7_95 + (1) := by omega)
          refine lv_iinc (v := iI x_47) (lv' := [(7, .int (iI x_47)), (0, .ref a0), (1, .int (iI x1)), (2, .int (iI x2)), (3, .int (iI z3_77)), (4, .int (iI z4_77)), (5, .int (iI x_28)), (6, .int (iI x_30))]) hx hb dX10_split_122 hl (k := 7) rfl hx_47 (by decide) rfl (fun ls hl => ?_)
          refine lv_goto (tgt := 95) hx hb dX10_split_125 (by decide) ?_
          exact ih95 x_47 lx_47 ux_47 L0 f_46 hs hE h4 (by omega) (by omega) (by omega) (by first | (intro j q0 q1; exfalso; omega) | exact fun j q0 q1 => cp' j q0 (by omega) | fail "none") (by first | exact fun j _ _ => q4 _ | exact cr' | fail "none") (by omega) _ _ _ hw (lv_sub hl [1, 2, 3, 4, 5, 6, 7, 0] rfl)
    exact J95 ((((2147483647 : Int) - 0).toNat) + 1) 0 (by decide) (by decide) L0 fw77 hs hE h4 (by omega) (by omega) (by omega) (by first | (intro j q0 q1; exfalso; omega) | exact fun j q0 q1 => cp' j q0 (by omega) | fail "none") (by first | exact fun j _ _ => q4 _ | exact cr' | fail "none") (by omega) _ _ _ hw (lv_sub hl [3, 4, 5, 6, 7, 2, 1, 0] rfl)
  refine lv_aload_n hx hb dX10_split_0 rfl (lv_at hl 0 rfl) ?_
  refine q_iconst hx hb dX10_split_1 ?_
  refine q_puti (ci := 8) (C := RX10) (T := TX10) (N := 26) hx hb hts (fun w h => List.mem_cons_of_mem _ (mfX100 w h)) hown hK hw hs.1 hs.2.1 rfl 10 (by decide) (hts _ (List.mem_cons_of_mem _ (mr4 _ (List.mem_of_getElem? (i := 19) rfl)))) (fun _ h => h) tyX10 tyX10_ok nmX10 rfl (ty := .int) (by decide +kernel) rfl rfl dX10_split_2 (fun H locs hw => ?_)
  obtain ⟨f_48, ef_48⟩ : ∃ g : Nat → va_E, g = pU f0 a0 10 (.int (iI 0)) := ⟨_, rfl⟩
  have v10_f_48 : fI f_48 a0 10 = 0 := by rw [ef_48]; exact fI_pU_self hs.2.1 rfl ⟨by decide, by decide⟩
  have t5_f_48 : fI f_48 a0 5 = fI f0 a0 5 := by rw [ef_48]; exact fI_pU (Or.inr (by decide))
  have hE := hE.trans (show Kp a0 ad [4, 12, 13] [5, 10] f0 f_48 by rw [ef_48]; exact Kp_pU hs (by decide))
  have hs_ := hs
  have hs : MS cy L0 f_48 a0 ad := by rw [ef_48]; exact MS_pU hs rfl
  rw [← ef_48] at hw
  have h4 : ∀ x : Int, 0 ≤ x → (x < 44 * fI f0 a0 5 ∧ (x < 44 * x1 ∨ 44 * x1 + 43 < x)) → aI f_48 (ad 4) x = aI f0 (ad 4) x := fun x q0 q1 => Eq.trans (by rw [ef_48]; exact hs_.aI_pU _ _) (h4 x q0 q1)
  have hv1 : MV f_48 a0 ad := hv.kp (show Kp a0 ad [] [10] f0 f_48 by rw [ef_48]; exact Kp_pU hs_ (by decide)) (by decide) (by decide)
  have q4 : ∀ x : Int, aI f_48 (ad 4) x = aI f0 (ad 4) x := fun x => by rw [ef_48]; exact hs_.aI_pU _ _
  have Q4a : aI f_48 (ad 4) = aI f0 (ad 4) := funext fun x => q4 x
  refine lv_aload_n hx hb dX10_split_5 rfl (lv_at hl 0 rfl) ?_
  refine lv_iload_n hx hb dX10_split_6 rfl (lv_at hl 1 rfl) ?_
  refine q_call_i hA hK hw (va_runV (As := [.int (iI x1)]) (rest := []) ⟨hx, hb, hml, hown, hts⟩ (c_X10_isBooking zo l D cy L0 f_48 a0 x1 lx1 ux1 ad hs (by omega) _) (cwV 1 hts (gT (inV (mr22 _ (List.mem_of_getElem? (i := 21) rfl)) (mr22 _ (List.mem_of_getElem? (i := 22) rfl)) (mr22 _ (List.mem_of_getElem? (i := 23) rfl)) (mr1 _ (List.mem_of_getElem? (i := 5) rfl)) (mr23 _ (List.mem_of_getElem? (i := 0) rfl)))) rfl rfl rfl (by decide +kernel) ⟨Nat.le_of_ble_eq_true rfl, Nat.le_of_ble_eq_true rfl⟩) (Wd.preV zo hA hZ hw hK hs.1 hs.2.1 rfl) rfl rfl hl.1 rfl (lv_room (Nat.le_of_ble_eq_true rfl)) dX10_split_7 ⟨Nat.le_of_ble_eq_true rfl, Nat.le_of_ble_eq_true rfl⟩) (fun x_49 L1 f1 H locs lx_49 ux_49 ex_49 hw => ?_)
  obtain ⟨rfl, rfl, ex_49⟩ := ex_49
  refine q_if_eq (tgt := 29) hx hb dX10_split_10 (by decide) ⟨lx_49, ux_49⟩ (fun c10 => ?_) (fun c10 => ?_)
  · refine q_iconst hx hb dX10_split_29 ?_
    exact q_ret_i hx hb hr hlocks hK hAe hw ⟨by decide, by decide⟩ (Nat.le_of_ble_eq_true rfl) (Nat.le_of_ble_eq_true rfl) dX10_split_30 (by exact ⟨rfl, hs, hE, hv1, Or.inl ⟨by omega, by omega, by omega, q4⟩⟩)
  · refine lv_iload_n hx hb dX10_split_13 rfl (lv_at hl 2 rfl) ?_
    refine q_call_i hA hK hw (va_runS (As := [.int (iI x2)]) (rest := []) ⟨hx, hb, hml, hown, hts⟩ (c_X10_isDay zo l D cy L0 f_48 x2 lx2 ux2 _) (va_cwS 1 hts (gT (inS (mr23 _ (List.mem_of_getElem? (i := 21) rfl)) (mr23 _ (List.mem_of_getElem? (i := 22) rfl)) (mr1 _ (List.mem_of_getElem? (i := 5) rfl)) (mr23 _ (List.mem_of_getElem? (i := 23) rfl)))) rfl rfl rfl (by decide +kernel) ⟨Nat.le_of_ble_eq_true rfl, Nat.le_of_ble_eq_true rfl⟩) (Wd.preS zo hA hZ hw hK) rfl rfl hl.1 rfl (lv_room (Nat.le_of_ble_eq_true rfl)) dX10_split_14 ⟨Nat.le_of_ble_eq_true rfl, Nat.le_of_ble_eq_true rfl⟩) (fun x_50 L1 f1 H locs lx_50 ux_50 ex_50 hw => ?_)
    obtain ⟨rfl, rfl, ex_50⟩ := ex_50
    refine q_if_eq (tgt := 29) hx hb dX10_split_17 (by decide) ⟨lx_50, ux_50⟩ (fun c17 => ?_) (fun c17 => ?_)
    · refine q_iconst hx hb dX10_split_29 ?_
      exact q_ret_i hx hb hr hlocks hK hAe hw ⟨by decide, by decide⟩ (Nat.le_of_ble_eq_true rfl) (Nat.le_of_ble_eq_true rfl) dX10_split_30 (by exact ⟨rfl, hs, hE, hv1, Or.inl ⟨by omega, by omega, by omega, q4⟩⟩)
    · refine lv_aload_n hx hb dX10_split_20 rfl (lv_at hl 0 rfl) ?_
      refine q_geti (ci := 8) (C := RX10) (T := TX10) (N := 26) hx hb hts (fun w h => List.mem_cons_of_mem _ (mfX100 w h)) hown hK hw hs.1 hs.2.1 rfl 5 (by decide) (hts _ (List.mem_cons_of_mem _ (mr19 _ (List.mem_of_getElem? (i := 1) rfl)))) (fun _ h => h) rfl dX10_split_21 (fun x_51 lx_51 ux_51 ex_51 => ?_)
      refine q_bipush hx hb dX10_split_24 rfl ?_
      refine q_icmp_ne (tgt := 31) hx hb dX10_split_26 (by decide) ⟨lx_51, ux_51⟩ ⟨by decide, by decide⟩ (fun c26 => ?_) (fun c26 => ?_)
      · have rv := hv1.row x1 (by omega) (by omega)
        have rv0 := hv.row x1 (by omega) (by omega)
        refine lv_aload_n hx hb dX10_split_31 rfl (lv_at hl 0 rfl) ?_
        refine lv_iload_n hx hb dX10_split_32 rfl (lv_at hl 1 rfl) ?_
        refine q_iconst hx hb dX10_split_33 ?_
        refine q_call_i hA hK hw (va_runV (As := [.int (iI x1), .int (iI 0)]) (rest := []) ⟨hx, hb, hml, hown, hts⟩ (c_X10_laysKeys_f zo l D cy L0 f_48 a0 x1 lx1 ux1 0 (by decide) (by decide) ad hs (by omega) (by omega) (by omega) (by omega) (by omega) (by omega) (by omega) (by omega) (by omega) (by omega) (by omega) (by first | exact hd | exact hd.kp hE (by decide) (by decide) (by decide) (by decide)) (by rw [q4, q4, q4, q4]; exact mo x1 (by omega) (by omega)) _) (cwV 2 hts (gT (inV (mr24 _ (List.mem_of_getElem? (i := 20) rfl)) (mr24 _ (List.mem_of_getElem? (i := 21) rfl)) (mr24 _ (List.mem_of_getElem? (i := 22) rfl)) (mr1 _ (List.mem_of_getElem? (i := 5) rfl)) (mr24 _ (List.mem_of_getElem? (i := 23) rfl)))) rfl rfl rfl (by decide +kernel) ⟨Nat.le_of_ble_eq_true rfl, Nat.le_of_ble_eq_true rfl⟩) (Wd.preV zo hA hZ hw hK hs.1 hs.2.1 rfl) rfl rfl hl.1 rfl (lv_room (Nat.le_of_ble_eq_true rfl)) dX10_split_34 ⟨Nat.le_of_ble_eq_true rfl, Nat.le_of_ble_eq_true rfl⟩) (fun x_52 L1 f_53 H locs lx_52 ux_52 ex_52 hw => ?_)
        obtain ⟨rfl, hs, hX, ex_52⟩ := ex_52
        have hE := hE.trans (hX.mono (rs' := [4, 12, 13]) (fs' := [5, 10]) (by decide) (by decide))
        have t5_f_53 : fI f_53 a0 5 = fI f_48 a0 5 := hX.2 5 (by decide)
        have h4 : ∀ x : Int, 0 ≤ x → (x < 44 * fI f0 a0 5 ∧ (x < 44 * x1 ∨ 44 * x1 + 43 < x)) → aI f_53 (ad 4) x = aI f0 (ad 4) x := fun x q0 q1 => (hX.1 4 rfl (by decide) x).trans (h4 x q0 q1)
        obtain ⟨p34a, p34b, -, kl⟩ := ex_52
        rw [Q4a] at kl
        have kl2 : KL (KG (aI f0 (ad 4)) (44 * x1)) (fun j => aI f_53 (ad 12) j) x_52 := by rw [kg_ref (g := aI f0 (ad 4)) (p := 44 * x1) (by omega)]; exact kl.cg (fun j => aI_cg (by omega))
        have hr9 : ∀ d : Int, KG (aI f0 (ad 4)) (44 * x1) d → 0 ≤ d ∧ d ≤ 36524 := fun d z => by have z1 := z.at; have z2 : HI (aI f0 (ad 4) (44 * x1 + 8)) ≤ 36524 := (by unfold HI; split <;> omega); omega
        clear kl
        have hv2 : MV f_53 a0 ad := hv1.kp hX (by decide) (by decide)
        have q4 : ∀ x : Int, aI f_53 (ad 4) x = aI f0 (ad 4) x := fun x => (hX.1 4 rfl (by decide) x).trans (q4 x)
        refine lv_istore_n (lv' := [(3, .int (iI x_52)), (0, .ref a0), (1, .int (iI x1)), (2, .int (iI x2))]) hx hb dX10_split_37 rfl hl (by decide) rfl (fun ls hl => ?_)
        refine q_iconst hx hb dX10_split_38 ?_
        refine lv_istore (lv' := [(4, .int (iI 0)), (3, .int (iI x_52)), (0, .ref a0), (1, .int (iI x1)), (2, .int (iI x2))]) hx hb dX10_split_39 hl (by decide) rfl (fun ls hl => ?_)
        have J41 : ∀ (n41 : Nat) (y4_41 : Int) (ly4_41 : -2147483648 ≤ y4_41) (uy4_41 : y4_41 ≤ 2147483647) (i1 : 0 ≤ y4_41) (i2 : y4_41 ≤ x_52) (lo : ∀ j : Int, 0 ≤ j → j < y4_41 → aI f_53 (ad 12) j < x2) (hn41 : ((2147483647 : Int) - y4_41).toNat < n41) (H : Heap) (locs : List Loc) (ls : Array Slot) (hw : Wd D A s.heap L0 f_53 H locs) (hl : lv_has ls 8 [(0, .ref a0), (1, .int (iI x1)), (2, .int (iI x2)), (3, .int (iI x_52)), (4, .int (iI y4_41))]), W p l e ({ frames := 3, cells := 0, slots := 0, locals := 74 } : Room) s m ([.ref a0, .int (iI x1), .int (iI x2)] : List Value).toArray below meth c H locs (0 + 0 + 0 + 0) (0 + 0 + 0 + 0) (MQ below (Qi D (tq cy) L0 f0 s.heap.size (fun (r : Int) (L1 : List Nat) (f1 : Nat → va_E) => L0 = L1 ∧ MS cy L0 f1 a0 ad ∧ Kp a0 ad [4, 12, 13] [5, 10] f0 f1 ∧ (MV f1 a0 ad ∧ ((r = -1 ∧ (x1 < 0 ∨ fI f0 a0 5 ≤ x1 ∨ x2 < 0 ∨ 36524 < x2 ∨ 12 ≤ fI f0 a0 5 ∨ cn (KG (aI f0 (ad 4)) (44 * x1)) 0 x2 = 0 ∨ cn (KG (aI f0 (ad 4)) (44 * x1)) x2 36525 = 0) ∧ fI f1 a0 5 = fI f0 a0 5 ∧ ∀ x : Int, aI f1 (ad 4) x = aI f0 (ad 4) x) ∨ (r = fI f0 a0 5 ∧ 0 ≤ x1 ∧ x1 < fI f0 a0 5 ∧ 0 ≤ x2 ∧ x2 ≤ 36524 ∧ fI f0 a0 5 < 12 ∧ cn (KG (aI f0 (ad 4)) (44 * x1)) 0 x2 ≠ 0 ∧ cn (KG (aI f0 (ad 4)) (44 * x1)) x2 36525 ≠ 0 ∧ fI f1 a0 5 = fI f0 a0 5 + 1 ∧ (∀ x : Int, 0 ≤ x → (x < 44 * fI f0 a0 5 ∧ (x < 44 * x1 ∨ 44 * x1 + 43 < x)) → aI f1 (ad 4) x = aI f0 (ad 4) x) ∧ (∀ j : Int, 0 ≤ j → j ≤ 10 → aI f1 (ad 4) (44 * x1 + j) = HWd (aI f0 (ad 4)) (44 * x1) x2 (44 * x1 + j)) ∧ (∀ j : Int, 0 ≤ j → j ≤ 10 → aI f1 (ad 4) (44 * fI f0 a0 5 + j) = TWd (aI f0 (ad 4)) (44 * x1) x2 (44 * x1 + j))))))) ([.ref a0, .int (iI x1), .int (iI x2)] : List Value).toArray s 0 0 A) (F0 m 41 ls []) := by
          intro n41
          induction n41 with
          | zero => intro y4_41 ly4_41 uy4_41 i1 i2 lo hn41; exact absurd hn41 (Nat.not_lt_zero _)
          | succ n41 ih41 =>
            intro y4_41 ly4_41 uy4_41 i1 i2 lo hn41 H locs ls hw hl
            refine lv_iload hx hb dX10_split_41 (lv_at hl 4 rfl) ?_
            refine lv_iload_n hx hb dX10_split_43 rfl (lv_at hl 3 rfl) ?_
            have J64 : ∀ (ah : x_52 ≤ y4_41 ∨ x2 ≤ aI f_53 (ad 12) y4_41) (H : Heap) (locs : List Loc) (ls : Array Slot) (hw : Wd D A s.heap L0 f_53 H locs) (hl : lv_has ls 8 [(0, .ref a0), (1, .int (iI x1)), (2, .int (iI x2)), (3, .int (iI x_52)), (4, .int (iI y4_41))]), W p l e ({ frames := 3, cells := 0, slots := 0, locals := 74 } : Room) s m ([.ref a0, .int (iI x1), .int (iI x2)] : List Value).toArray below meth c H locs (0 + 0 + 0 + 0) (0 + 0 + 0 + 0) (MQ below (Qi D (tq cy) L0 f0 s.heap.size (fun (r : Int) (L1 : List Nat) (f1 : Nat → va_E) => L0 = L1 ∧ MS cy L0 f1 a0 ad ∧ Kp a0 ad [4, 12, 13] [5, 10] f0 f1 ∧ (MV f1 a0 ad ∧ ((r = -1 ∧ (x1 < 0 ∨ fI f0 a0 5 ≤ x1 ∨ x2 < 0 ∨ 36524 < x2 ∨ 12 ≤ fI f0 a0 5 ∨ cn (KG (aI f0 (ad 4)) (44 * x1)) 0 x2 = 0 ∨ cn (KG (aI f0 (ad 4)) (44 * x1)) x2 36525 = 0) ∧ fI f1 a0 5 = fI f0 a0 5 ∧ ∀ x : Int, aI f1 (ad 4) x = aI f0 (ad 4) x) ∨ (r = fI f0 a0 5 ∧ 0 ≤ x1 ∧ x1 < fI f0 a0 5 ∧ 0 ≤ x2 ∧ x2 ≤ 36524 ∧ fI f0 a0 5 < 12 ∧ cn (KG (aI f0 (ad 4)) (44 * x1)) 0 x2 ≠ 0 ∧ cn (KG (aI f0 (ad 4)) (44 * x1)) x2 36525 ≠ 0 ∧ fI f1 a0 5 = fI f0 a0 5 + 1 ∧ (∀ x : Int, 0 ≤ x → (x < 44 * fI f0 a0 5 ∧ (x < 44 * x1 ∨ 44 * x1 + 43 < x)) → aI f1 (ad 4) x = aI f0 (ad 4) x) ∧ (∀ j : Int, 0 ≤ j → j ≤ 10 → aI f1 (ad 4) (44 * x1 + j) = HWd (aI f0 (ad 4)) (44 * x1) x2 (44 * x1 + j)) ∧ (∀ j : Int, 0 ≤ j → j ≤ 10 → aI f1 (ad 4) (44 * fI f0 a0 5 + j) = TWd (aI f0 (ad 4)) (44 * x1) x2 (44 * x1 + j))))))) ([.ref a0, .int (iI x1), .int (iI x2)] : List Value).toArray s 0 0 A) (F0 m 64 ls []) := by
              intro ah H locs ls hw hl
              have ka := kl2.cntA hr9 (a := x2) (i := y4_41) (by omega) (by omega) (by omega) (by omega) lo ah
              refine lv_iload hx hb dX10_split_64 (lv_at hl 4 rfl) ?_
              refine q_if_eq (tgt := 75) hx hb dX10_split_66 (by decide) ⟨ly4_41, uy4_41⟩ (fun c66 => ?_) (fun c66 => ?_)
              · refine q_iconst hx hb dX10_split_75 ?_
                exact q_ret_i hx hb hr hlocks hK hAe hw ⟨by decide, by decide⟩ (Nat.le_of_ble_eq_true rfl) (Nat.le_of_ble_eq_true rfl) dX10_split_76 (by exact ⟨rfl, hs, hE, hv2, Or.inl ⟨by omega, by omega, by omega, q4⟩⟩)
              · refine lv_iload hx hb dX10_split_69 (lv_at hl 4 rfl) ?_
                refine lv_iload_n hx hb dX10_split_71 rfl (lv_at hl 3 rfl) ?_
                refine q_icmp_ne (tgt := 77) hx hb dX10_split_72 (by decide) ⟨ly4_41, uy4_41⟩ ⟨lx_52, ux_52⟩ (fun c72 => ?_) (fun c72 => ?_)
                · exact J77 x_52 lx_52 ux_52 y4_41 ly4_41 uy4_41 L0 f_53 hs hE h4 (by omega) (by omega) (by omega) (by omega) (by omega) (by omega) (by exact q4) (by omega) (by omega) (by omega) (by omega) (by omega) (by omega) (by omega) (by omega) _ _ _ hw (lv_sub hl [0, 1, 2, 3, 4] rfl)
                · refine q_iconst hx hb dX10_split_75 ?_
                  exact q_ret_i hx hb hr hlocks hK hAe hw ⟨by decide, by decide⟩ (Nat.le_of_ble_eq_true rfl) (Nat.le_of_ble_eq_true rfl) dX10_split_76 (by exact ⟨rfl, hs, hE, hv2, Or.inl ⟨by omega, by omega, by omega, q4⟩⟩)
            refine q_icmp_ge (tgt := 64) hx hb dX10_split_44 (by decide) ⟨ly4_41, uy4_41⟩ ⟨lx_52, ux_52⟩ (fun c44 => ?_) (fun c44 => ?_)
            · exact J64 (by first | exact Or.inl (by omega) | exact Or.inr (by omega) | fail "none") _ _ _ hw (lv_sub hl [0, 1, 2, 3, 4] rfl)
            · refine lv_aload_n hx hb dX10_split_47 rfl (lv_at hl 0 rfl) ?_
              refine q_getr (ci := 8) (C := RX10) (T := TX10) (N := 26) hx hb hts (fun w h => List.mem_cons_of_mem _ (mfX100 w h)) hown hK hw hs.1 hs.2.1 rfl 12 (by decide) (hts _ (List.mem_cons_of_mem _ (mr3 _ (List.mem_of_getElem? (i := 20) rfl)))) (fun _ h => h) rfl (hs.2.2.1 12 rfl).1 dX10_split_48 ?_
              refine lv_iload hx hb dX10_split_51 (lv_at hl 4 rfl) ?_
              refine q_iald hx hb hK hw (hs.2.2.1 12 rfl).2.1 1 (hs.2.2.1 12 rfl).2.2 rfl ⟨ly4_41, uy4_41⟩ (by omega) (by show _ < ((73050 : Nat) : Int); omega) dX10_split_53 (fun x_54 lx_54 ux_54 ex_54 => ?_)
              have g53 := ex_54
              refine lv_iload_n hx hb dX10_split_54 rfl (lv_at hl 2 rfl) ?_
              refine q_icmp_ge (tgt := 64) hx hb dX10_split_55 (by decide) ⟨lx_54, ux_54⟩ ⟨lx2, ux2⟩ (fun c55 => ?_) (fun c55 => ?_)
              · exact J64 (by first | exact Or.inl (by omega) | exact Or.inr (by omega) | fail "none") _ _ _ hw (lv_sub hl [0, 1, 2, 3, 4] rfl)
              · obtain ⟨x_55, lx_55, ux_55, hx_55, ex_55⟩ := q_inc y4_41 (1)
                try (replace ex_55 : x_55 = y4_41 + (1) := by omega)
                refine lv_iinc (v := iI x_55) (lv' := [(4, .int (iI x_55)), (0, .ref a0), (1, .int (iI x1)), (2, .int (iI x2)), (3, .int (iI x_52))]) hx hb dX10_split_58 hl (k := 4) rfl hx_55 (by decide) rfl (fun ls hl => ?_)
                refine lv_goto (tgt := 41) hx hb dX10_split_61 (by decide) ?_
                exact ih41 x_55 lx_55 ux_55 (by omega) (by omega) (by first | exact fun j q0 q1 => absurd q1 (by omega) | exact fun j q0 q1 => (Int.lt_or_le j y4_41).elim (fun q => lo j q0 q) (fun q => by rw [show j = y4_41 by omega, ← g53]; omega) | fail "none") (by omega) _ _ _ hw (lv_sub hl [1, 2, 3, 4, 0] rfl)
        exact J41 ((((2147483647 : Int) - 0).toNat) + 1) 0 (by decide) (by decide) (by omega) (by omega) (by first | exact fun j q0 q1 => absurd q1 (by omega) | exact fun j q0 q1 => (Int.lt_or_le j y4_41).elim (fun q => lo j q0 q) (fun q => by rw [show j = y4_41 by omega, ← g53]; omega) | fail "none") (by omega) _ _ _ hw (lv_sub hl [2, 3, 4, 1, 0] rfl)
      · refine q_iconst hx hb dX10_split_29 ?_
        exact q_ret_i hx hb hr hlocks hK hAe hw ⟨by decide, by decide⟩ (Nat.le_of_ble_eq_true rfl) (Nat.le_of_ble_eq_true rfl) dX10_split_30 (by exact ⟨rfl, hs, hE, hv1, Or.inl ⟨by omega, by omega, by omega, q4⟩⟩)
set_option maxHeartbeats 4000000 in
set_option maxRecDepth 100000 in
theorem c_X10_image_f {Z : Zt} (zo : Zok Z) (l : Launch) (D : va_G) (cy : Cy) (L0 : List Nat) (f0 : Nat → va_E) (a0 : Nat) (x1 : Int) (lx1 : -2147483648 ≤ x1) (ux1 : x1 ≤ 2147483647) (ad : Nat → Nat) (hs : MS cy L0 f0 a0 ad) (hv : MV f0 a0 ad) (hi : MI f0 a0 ad) : Ci Z l yX10_image (Cond.code yX10_image cX10_image 3 (some .boolean) :: TB) ({ frames := 1, cells := 0, slots := 0, locals := 22 } : Room) 0 0 D (tq cy) [.ref a0, .int (iI x1)] L0 f0 (fun (r : Int) (L1 : List Nat) (f1 : Nat → va_E) => L0 = L1 ∧ MS cy L0 f1 a0 ad ∧ Kp a0 ad [6, 7] [10] f0 f1 ∧ (MI f1 a0 ad ∧ ((r = 0 ∧ (x1 < 0 ∨ 1 < x1) ∧ (∀ x : Int, aI f1 (ad 6) x = aI f0 (ad 6) x) ∧ ∀ x : Int, aI f1 (ad 7) x = aI f0 (ad 7) x) ∨ (r = 1 ∧ 0 ≤ x1 ∧ x1 ≤ 1 ∧ aI f1 (ad 7) x1 = fI f0 a0 5 ∧ (∀ x : Int, 0 ≤ x → x ≠ x1 → aI f1 (ad 7) x = aI f0 (ad 7) x) ∧ (∀ j : Int, 0 ≤ j → j < 528 → aI f1 (ad 6) (528 * x1 + j) = aI f0 (ad 4) j) ∧ ∀ x : Int, 0 ≤ x → (x < 528 * x1 ∨ 528 * x1 + 528 ≤ x) → aI f1 (ad 6) x = aI f0 (ad 6) x)))) := by
  refine Ci.enter (cc := cX10_image) (n := 3) rfl (plainFor_of_name (by decide)) (Nat.le_of_ble_eq_true rfl) ?_
  intro p e s m below meth c ls A hx hb hr hts hown hlocks hnm hml hK hA hAe hw hZ hl
  have hown : s.vm.findClass RX10 = some m.cls := hown
  have hl : lv_has ls 3 [(0, .ref a0), (1, .int (iI x1))] := hl
  have hN : ZN s := (zo.2.2.2.2 _ _ _ hZ).2
  have hE : Kp a0 ad [6, 7] [10] f0 f0 := Kp.refl _ _ _ _ _
  refine lv_aload_n hx hb dX10_image_0 rfl (lv_at hl 0 rfl) ?_
  refine q_iconst hx hb dX10_image_1 ?_
  refine q_puti (ci := 8) (C := RX10) (T := TX10) (N := 26) hx hb hts (fun w h => List.mem_cons_of_mem _ (mfX100 w h)) hown hK hw hs.1 hs.2.1 rfl 10 (by decide) (hts _ (List.mem_cons_of_mem _ (mr4 _ (List.mem_of_getElem? (i := 19) rfl)))) (fun _ h => h) tyX10 tyX10_ok nmX10 rfl (ty := .int) (by decide +kernel) rfl rfl dX10_image_2 (fun H locs hw => ?_)
  obtain ⟨f_1, ef_1⟩ : ∃ g : Nat → va_E, g = pU f0 a0 10 (.int (iI 0)) := ⟨_, rfl⟩
  have v10_f_1 : fI f_1 a0 10 = 0 := by rw [ef_1]; exact fI_pU_self hs.2.1 rfl ⟨by decide, by decide⟩
  have t5_f_1 : fI f_1 a0 5 = fI f0 a0 5 := by rw [ef_1]; exact fI_pU (Or.inr (by decide))
  have hE := hE.trans (show Kp a0 ad [6, 7] [10] f0 f_1 by rw [ef_1]; exact Kp_pU hs (by decide))
  have hs_ := hs
  have hs : MS cy L0 f_1 a0 ad := by rw [ef_1]; exact MS_pU hs rfl
  rw [← ef_1] at hw
  have Q4 : aI f_1 (ad 4) = aI f0 (ad 4) := funext fun x => hE.1 4 rfl (by decide) x
  have hi1 : MI f_1 a0 ad := hi.kp (show Kp a0 ad [] [10] f0 f_1 by rw [ef_1]; exact Kp_pU hs_ (by decide)) (by decide) (by decide)
  have co : ∀ x : Int, aI f_1 (ad 6) x = aI f0 (ad 6) x := fun x => by rw [ef_1]; exact hs_.aI_pU _ _
  have c7 : ∀ x : Int, aI f_1 (ad 7) x = aI f0 (ad 7) x := fun x => by rw [ef_1]; exact hs_.aI_pU _ _
  refine lv_iload_n hx hb dX10_image_5 rfl (lv_at hl 1 rfl) ?_
  refine q_iconst hx hb dX10_image_6 ?_
  refine q_iconst hx hb dX10_image_7 ?_
  refine q_call_i hA hK hw (va_runS (As := [.int (iI x1), .int (iI 0), .int (iI 1)]) (rest := []) ⟨hx, hb, hml, hown, hts⟩ (c_X10_within zo l D cy L0 f_1 x1 lx1 ux1 0 (by decide) (by decide) 1 (by decide) (by decide) _) (va_cwS 3 hts (gT (inS (mr5 _ (List.mem_of_getElem? (i := 9) rfl)) (mr5 _ (List.mem_of_getElem? (i := 10) rfl)) (mr1 _ (List.mem_of_getElem? (i := 5) rfl)) (mr5 _ (List.mem_of_getElem? (i := 11) rfl)))) rfl rfl rfl (by decide +kernel) ⟨Nat.le_of_ble_eq_true rfl, Nat.le_of_ble_eq_true rfl⟩) (Wd.preS zo hA hZ hw hK) rfl rfl hl.1 rfl (lv_room (Nat.le_of_ble_eq_true rfl)) dX10_image_8 ⟨Nat.le_of_ble_eq_true rfl, Nat.le_of_ble_eq_true rfl⟩) (fun x_2 L1 f1 H locs lx_2 ux_2 ex_2 hw => ?_)
  obtain ⟨rfl, rfl, ex_2⟩ := ex_2
  refine q_if_ne (tgt := 16) hx hb dX10_image_11 (by decide) ⟨lx_2, ux_2⟩ (fun c11 => ?_) (fun c11 => ?_)
  · refine q_iconst hx hb dX10_image_16 ?_
    refine lv_istore_n (lv' := [(2, .int (iI 0)), (0, .ref a0), (1, .int (iI x1))]) hx hb dX10_image_17 rfl hl (by decide) rfl (fun ls hl => ?_)
    have J18 : ∀ (n18 : Nat) (y2_18 : Int) (ly2_18 : -2147483648 ≤ y2_18) (uy2_18 : y2_18 ≤ 2147483647) (L : List Nat) (fw18 : Nat → va_E) (hs : MS cy L0 fw18 a0 ad) (hE : Kp a0 ad [6, 7] [10] f0 fw18) (i1 : 0 ≤ y2_18) (i2 : y2_18 ≤ 528) (u5 : fI fw18 a0 5 = fI f0 a0 5) (cp : ∀ j : Int, 0 ≤ j → j < y2_18 → aI fw18 (ad 6) (528 * x1 + j) = aI f0 (ad 4) j) (co : ∀ x : Int, 0 ≤ x → (x < 528 * x1 ∨ 528 * x1 + 528 ≤ x) → aI fw18 (ad 6) x = aI f0 (ad 6) x) (c7 : ∀ x : Int, aI fw18 (ad 7) x = aI f0 (ad 7) x) (hn18 : ((2147483647 : Int) - y2_18).toNat < n18) (H : Heap) (locs : List Loc) (ls : Array Slot) (hw : Wd D A s.heap L0 fw18 H locs) (hl : lv_has ls 3 [(0, .ref a0), (1, .int (iI x1)), (2, .int (iI y2_18))]), W p l e ({ frames := 1, cells := 0, slots := 0, locals := 22 } : Room) s m ([.ref a0, .int (iI x1)] : List Value).toArray below meth c H locs (0 + 0) (0 + 0) (MQ below (Qi D (tq cy) L0 f0 s.heap.size (fun (r : Int) (L1 : List Nat) (f1 : Nat → va_E) => L0 = L1 ∧ MS cy L0 f1 a0 ad ∧ Kp a0 ad [6, 7] [10] f0 f1 ∧ (MI f1 a0 ad ∧ ((r = 0 ∧ (x1 < 0 ∨ 1 < x1) ∧ (∀ x : Int, aI f1 (ad 6) x = aI f0 (ad 6) x) ∧ ∀ x : Int, aI f1 (ad 7) x = aI f0 (ad 7) x) ∨ (r = 1 ∧ 0 ≤ x1 ∧ x1 ≤ 1 ∧ aI f1 (ad 7) x1 = fI f0 a0 5 ∧ (∀ x : Int, 0 ≤ x → x ≠ x1 → aI f1 (ad 7) x = aI f0 (ad 7) x) ∧ (∀ j : Int, 0 ≤ j → j < 528 → aI f1 (ad 6) (528 * x1 + j) = aI f0 (ad 4) j) ∧ ∀ x : Int, 0 ≤ x → (x < 528 * x1 ∨ 528 * x1 + 528 ≤ x) → aI f1 (ad 6) x = aI f0 (ad 6) x))))) ([.ref a0, .int (iI x1)] : List Value).toArray s 0 0 A) (F0 m 18 ls []) := by
      intro n18
      induction n18 with
      | zero => intro y2_18 ly2_18 uy2_18 L fw18 hs hE i1 i2 u5 cp co c7 hn18; exact absurd hn18 (Nat.not_lt_zero _)
      | succ n18 ih18 =>
        intro y2_18 ly2_18 uy2_18 L fw18 hs hE i1 i2 u5 cp co c7 hn18 H locs ls hw hl
        have Q4 : aI fw18 (ad 4) = aI f0 (ad 4) := funext fun x => hE.1 4 rfl (by decide) x
        refine lv_iload_n hx hb dX10_image_18 rfl (lv_at hl 2 rfl) ?_
        refine q_sipush hx hb dX10_image_19 rfl ?_
        refine q_icmp_ge (tgt := 49) hx hb dX10_image_22 (by decide) ⟨ly2_18, uy2_18⟩ ⟨by decide, by decide⟩ (fun c22 => ?_) (fun c22 => ?_)
        · refine lv_aload_n hx hb dX10_image_49 rfl (lv_at hl 0 rfl) ?_
          refine q_getr (ci := 8) (C := RX10) (T := TX10) (N := 26) hx hb hts (fun w h => List.mem_cons_of_mem _ (mfX100 w h)) hown hK hw hs.1 hs.2.1 rfl 7 (by decide) (hts _ (List.mem_cons_of_mem _ (mr3 _ (List.mem_of_getElem? (i := 16) rfl)))) (fun _ h => h) rfl (hs.2.2.1 7 rfl).1 dX10_image_50 ?_
          refine lv_iload_n hx hb dX10_image_53 rfl (lv_at hl 1 rfl) ?_
          refine lv_aload_n hx hb dX10_image_54 rfl (lv_at hl 0 rfl) ?_
          refine q_geti (ci := 8) (C := RX10) (T := TX10) (N := 26) hx hb hts (fun w h => List.mem_cons_of_mem _ (mfX100 w h)) hown hK hw hs.1 hs.2.1 rfl 5 (by decide) (hts _ (List.mem_cons_of_mem _ (mr19 _ (List.mem_of_getElem? (i := 1) rfl)))) (fun _ h => h) rfl dX10_image_55 (fun x_3 lx_3 ux_3 ex_3 => ?_)
          refine q_iast hx hb hK hw (hs.2.2.1 7 rfl).2.1 1 (hs.2.2.1 7 rfl).2.2 rfl ⟨lx1, ux1⟩ (by omega) (by show _ < ((2 : Nat) : Int); omega) dX10_image_58 (fun H locs hw => ?_)
          obtain ⟨f_4, ef_4⟩ : ∃ g : Nat → va_E, g = aU fw18 (ad 7) x1 (iI x_3) := ⟨_, rfl⟩
          have t5_f_4 : fI f_4 a0 5 = fI fw18 a0 5 := by rw [ef_4]; exact hs.fI_aU rfl _ _
          have hE := hE.trans (show Kp a0 ad [6, 7] [10] fw18 f_4 by rw [ef_4]; exact Kp_aU hs rfl (by decide))
          have hs_ := hs
          have hs : MS cy L0 f_4 a0 ad := by rw [ef_4]; exact MS_aU hs rfl
          rw [← ef_4] at hw
          have Q4 : aI f_4 (ad 4) = aI f0 (ad 4) := funext fun x => hE.1 4 rfl (by decide) x
          have hiz : MI f_4 a0 ad := hi.put (c := x1) (n := x_3) hv (by omega) (by omega) (by omega) (by rw [ef_4]; exact hs_.aI_self rfl ⟨by omega, by omega⟩) (fun x q0 q1 => Eq.trans (by rw [ef_4]; exact hs_.aI_nj rfl (by omega) q0 q1) (c7 x)) (fun j q0 q1 => Eq.trans (by rw [ef_4]; exact hs_.aI_ne rfl rfl (by decide) _) (cp j q0 (by omega))) (fun x q0 q1 => Eq.trans (by rw [ef_4]; exact hs_.aI_ne rfl rfl (by decide) _) (co x q0 q1))
          have v58 : aI f_4 (ad 7) x1 = x_3 := by rw [ef_4]; exact hs_.aI_self rfl ⟨by omega, by omega⟩
          have n58 : ∀ x : Int, 0 ≤ x → x ≠ x1 → aI f_4 (ad 7) x = aI f0 (ad 7) x := fun x q0 q1 => Eq.trans (by rw [ef_4]; exact hs_.aI_nj rfl (by omega) q0 q1) (c7 x)
          have p58 : ∀ j : Int, 0 ≤ j → j < 528 → aI f_4 (ad 6) (528 * x1 + j) = aI f0 (ad 4) j := fun j q0 q1 => Eq.trans (by rw [ef_4]; exact hs_.aI_ne rfl rfl (by decide) _) (cp j q0 (by omega))
          have o58 : ∀ x : Int, 0 ≤ x → (x < 528 * x1 ∨ 528 * x1 + 528 ≤ x) → aI f_4 (ad 6) x = aI f0 (ad 6) x := fun x q0 q1 => Eq.trans (by rw [ef_4]; exact hs_.aI_ne rfl rfl (by decide) _) (co x q0 q1)
          refine q_iconst hx hb dX10_image_59 ?_
          exact q_ret_z hx hb hr hlocks hK hAe hw (by omega) (Nat.le_of_ble_eq_true rfl) (Nat.le_of_ble_eq_true rfl) dX10_image_60 (by exact ⟨rfl, hs, hE, hiz, Or.inr ⟨by omega, by omega, by omega, by omega, n58, p58, o58⟩⟩)
        · refine lv_aload_n hx hb dX10_image_25 rfl (lv_at hl 0 rfl) ?_
          refine q_getr (ci := 8) (C := RX10) (T := TX10) (N := 26) hx hb hts (fun w h => List.mem_cons_of_mem _ (mfX100 w h)) hown hK hw hs.1 hs.2.1 rfl 6 (by decide) (hts _ (List.mem_cons_of_mem _ (mr3 _ (List.mem_of_getElem? (i := 15) rfl)))) (fun _ h => h) rfl (hs.2.2.1 6 rfl).1 dX10_image_26 ?_
          refine q_sipush hx hb dX10_image_29 rfl ?_
          refine lv_iload_n hx hb dX10_image_32 rfl (lv_at hl 1 rfl) ?_
          first | refine q_imul hx hb dX10_image_33 ⟨by omega, by omega⟩ (fun x_5 lx_5 ux_5 ex_5 => ?_) | refine q_imulw hx hb dX10_image_33 (fun x_5 lx_5 ux_5 ex_5 => ?_)
          refine lv_iload_n hx hb dX10_image_34 rfl (lv_at hl 2 rfl) ?_
          first | refine q_iadd hx hb dX10_image_35 ⟨by omega, by omega⟩ (fun x_6 lx_6 ux_6 ex_6 => ?_) | refine q_iaddw hx hb dX10_image_35 (fun x_6 lx_6 ux_6 ex_6 => ?_)
          refine lv_aload_n hx hb dX10_image_36 rfl (lv_at hl 0 rfl) ?_
          refine q_getr (ci := 8) (C := RX10) (T := TX10) (N := 26) hx hb hts (fun w h => List.mem_cons_of_mem _ (mfX100 w h)) hown hK hw hs.1 hs.2.1 rfl 4 (by decide) (hts _ (List.mem_cons_of_mem _ (mr3 _ (List.mem_of_getElem? (i := 14) rfl)))) (fun _ h => h) rfl (hs.2.2.1 4 rfl).1 dX10_image_37 ?_
          refine lv_iload_n hx hb dX10_image_40 rfl (lv_at hl 2 rfl) ?_
          refine q_iald hx hb hK hw (hs.2.2.1 4 rfl).2.1 1 (hs.2.2.1 4 rfl).2.2 rfl ⟨ly2_18, uy2_18⟩ (by omega) (by show _ < ((528 : Nat) : Int); omega) dX10_image_41 (fun x_7 lx_7 ux_7 ex_7 => ?_)
          have e41 : x_7 = aI f0 (ad 4) y2_18 := ex_7.trans (congrFun Q4 _)
          refine q_iast hx hb hK hw (hs.2.2.1 6 rfl).2.1 1 (hs.2.2.1 6 rfl).2.2 rfl ⟨lx_6, ux_6⟩ (by omega) (by show _ < ((1056 : Nat) : Int); omega) dX10_image_42 (fun H locs hw => ?_)
          obtain ⟨f_8, ef_8⟩ : ∃ g : Nat → va_E, g = aU fw18 (ad 6) x_6 (iI x_7) := ⟨_, rfl⟩
          have t5_f_8 : fI f_8 a0 5 = fI fw18 a0 5 := by rw [ef_8]; exact hs.fI_aU rfl _ _
          have hE := hE.trans (show Kp a0 ad [6, 7] [10] fw18 f_8 by rw [ef_8]; exact Kp_aU hs rfl (by decide))
          have hs_ := hs
          have hs : MS cy L0 f_8 a0 ad := by rw [ef_8]; exact MS_aU hs rfl
          rw [← ef_8] at hw
          have Q4 : aI f_8 (ad 4) = aI f0 (ad 4) := funext fun x => hE.1 4 rfl (by decide) x
          have v42 : aI f_8 (ad 6) (528 * x1 + y2_18) = aI f0 (ad 4) y2_18 := (aI_cg (show 528 * x1 + y2_18 = x_6 by omega)).trans (Eq.trans (by rw [ef_8]; exact hs_.aI_self rfl ⟨by omega, by omega⟩) e41)
          have cp' : ∀ j : Int, 0 ≤ j → j < y2_18 + 1 → aI f_8 (ad 6) (528 * x1 + j) = aI f0 (ad 4) j := by
            intro j q0 q1
            by_cases ej : j = y2_18
            · rw [ej]; exact v42
            · exact Eq.trans (by rw [ef_8]; exact hs_.aI_nj rfl (by omega) (by omega) (by omega)) (cp j q0 (by omega))
          have co' : ∀ x : Int, 0 ≤ x → (x < 528 * x1 ∨ 528 * x1 + 528 ≤ x) → aI f_8 (ad 6) x = aI f0 (ad 6) x := fun x q0 q1 => Eq.trans (by rw [ef_8]; exact hs_.aI_nj rfl (by omega) q0 (by omega)) (co x q0 q1)
          have c7' : ∀ x : Int, aI f_8 (ad 7) x = aI f0 (ad 7) x := fun x => Eq.trans (by rw [ef_8]; exact hs_.aI_ne rfl rfl (by decide) _) (c7 x)
          obtain ⟨x_9, lx_9, ux_9, hx_9, ex_9⟩ := q_inc y2_18 (1)
          try (replace ex_9 : x_9 = y2_18 + (1) := by omega)
          refine lv_iinc (v := iI x_9) (lv' := [(2, .int (iI x_9)), (0, .ref a0), (1, .int (iI x1))]) hx hb dX10_image_43 hl (k := 2) rfl hx_9 (by decide) rfl (fun ls hl => ?_)
          refine lv_goto (tgt := 18) hx hb dX10_image_46 (by decide) ?_
          exact ih18 x_9 lx_9 ux_9 L0 f_8 hs hE (by omega) (by omega) (by omega) (by first | (intro j q0 q1; exfalso; omega) | exact fun j q0 q1 => cp' j q0 (by omega) | fail "none") (by first | exact fun x _ _ => co x | exact co' | fail "none") (by first | exact c7' | exact c7 | fail "none") (by omega) _ _ _ hw (lv_sub hl [1, 2, 0] rfl)
    exact J18 ((((2147483647 : Int) - 0).toNat) + 1) 0 (by decide) (by decide) L0 f_1 hs hE (by omega) (by omega) (by omega) (by first | (intro j q0 q1; exfalso; omega) | exact fun j q0 q1 => cp' j q0 (by omega) | fail "none") (by first | exact fun x _ _ => co x | exact co' | fail "none") (by first | exact c7' | exact c7 | fail "none") (by omega) _ _ _ hw (lv_sub hl [1, 2, 0] rfl)
  · refine q_iconst hx hb dX10_image_14 ?_
    exact q_ret_z hx hb hr hlocks hK hAe hw (by omega) (Nat.le_of_ble_eq_true rfl) (Nat.le_of_ble_eq_true rfl) dX10_image_15 (by exact ⟨rfl, hs, hE, hi1, Or.inl ⟨by omega, by omega, co, c7⟩⟩)
set_option maxHeartbeats 4000000 in
set_option maxRecDepth 100000 in
theorem c_X10_back_f {Z : Zt} (zo : Zok Z) (l : Launch) (D : va_G) (cy : Cy) (L0 : List Nat) (f0 : Nat → va_E) (a0 : Nat) (x1 : Int) (lx1 : -2147483648 ≤ x1) (ux1 : x1 ≤ 2147483647) (ad : Nat → Nat) (hs : MS cy L0 f0 a0 ad) (hv : MV f0 a0 ad) (hi : MI f0 a0 ad) : Ci Z l yX10_back (Cond.code yX10_back cX10_back 3 (some .boolean) :: TB) ({ frames := 1, cells := 0, slots := 0, locals := 22 } : Room) 0 0 D (tq cy) [.ref a0, .int (iI x1)] L0 f0 (fun (r : Int) (L1 : List Nat) (f1 : Nat → va_E) => L0 = L1 ∧ MS cy L0 f1 a0 ad ∧ Kp a0 ad [4] [5, 10] f0 f1 ∧ (MV f1 a0 ad ∧ ((r = 0 ∧ (x1 < 0 ∨ 1 < x1 ∨ aI f0 (ad 7) x1 < 0) ∧ fI f1 a0 5 = fI f0 a0 5 ∧ ∀ x : Int, aI f1 (ad 4) x = aI f0 (ad 4) x) ∨ (r = 1 ∧ 0 ≤ x1 ∧ x1 ≤ 1 ∧ 0 ≤ aI f0 (ad 7) x1 ∧ fI f1 a0 5 = aI f0 (ad 7) x1 ∧ ∀ j : Int, 0 ≤ j → j < 528 → aI f1 (ad 4) j = aI f0 (ad 6) (528 * x1 + j))))) := by
  refine Ci.enter (cc := cX10_back) (n := 3) rfl (plainFor_of_name (by decide)) (Nat.le_of_ble_eq_true rfl) ?_
  intro p e s m below meth c ls A hx hb hr hts hown hlocks hnm hml hK hA hAe hw hZ hl
  have hown : s.vm.findClass RX10 = some m.cls := hown
  have hl : lv_has ls 3 [(0, .ref a0), (1, .int (iI x1))] := hl
  have hN : ZN s := (zo.2.2.2.2 _ _ _ hZ).2
  have hE : Kp a0 ad [4] [5, 10] f0 f0 := Kp.refl _ _ _ _ _
  refine lv_aload_n hx hb dX10_back_0 rfl (lv_at hl 0 rfl) ?_
  refine q_iconst hx hb dX10_back_1 ?_
  refine q_puti (ci := 8) (C := RX10) (T := TX10) (N := 26) hx hb hts (fun w h => List.mem_cons_of_mem _ (mfX100 w h)) hown hK hw hs.1 hs.2.1 rfl 10 (by decide) (hts _ (List.mem_cons_of_mem _ (mr4 _ (List.mem_of_getElem? (i := 19) rfl)))) (fun _ h => h) tyX10 tyX10_ok nmX10 rfl (ty := .int) (by decide +kernel) rfl rfl dX10_back_2 (fun H locs hw => ?_)
  obtain ⟨f_1, ef_1⟩ : ∃ g : Nat → va_E, g = pU f0 a0 10 (.int (iI 0)) := ⟨_, rfl⟩
  have v10_f_1 : fI f_1 a0 10 = 0 := by rw [ef_1]; exact fI_pU_self hs.2.1 rfl ⟨by decide, by decide⟩
  have t5_f_1 : fI f_1 a0 5 = fI f0 a0 5 := by rw [ef_1]; exact fI_pU (Or.inr (by decide))
  have hE := hE.trans (show Kp a0 ad [4] [5, 10] f0 f_1 by rw [ef_1]; exact Kp_pU hs (by decide))
  have hs_ := hs
  have hs : MS cy L0 f_1 a0 ad := by rw [ef_1]; exact MS_pU hs rfl
  rw [← ef_1] at hw
  have Q6 : aI f_1 (ad 6) = aI f0 (ad 6) := funext fun x => hE.1 6 rfl (by decide) x
  have Q7 : aI f_1 (ad 7) = aI f0 (ad 7) := funext fun x => hE.1 7 rfl (by decide) x
  have hv1 : MV f_1 a0 ad := hv.kp (show Kp a0 ad [] [10] f0 f_1 by rw [ef_1]; exact Kp_pU hs_ (by decide)) (by decide) (by decide)
  have q4 : ∀ x : Int, aI f_1 (ad 4) x = aI f0 (ad 4) x := fun x => by rw [ef_1]; exact hs_.aI_pU _ _
  refine lv_iload_n hx hb dX10_back_5 rfl (lv_at hl 1 rfl) ?_
  refine q_iconst hx hb dX10_back_6 ?_
  refine q_iconst hx hb dX10_back_7 ?_
  refine q_call_i hA hK hw (va_runS (As := [.int (iI x1), .int (iI 0), .int (iI 1)]) (rest := []) ⟨hx, hb, hml, hown, hts⟩ (c_X10_within zo l D cy L0 f_1 x1 lx1 ux1 0 (by decide) (by decide) 1 (by decide) (by decide) _) (va_cwS 3 hts (gT (inS (mr5 _ (List.mem_of_getElem? (i := 9) rfl)) (mr5 _ (List.mem_of_getElem? (i := 10) rfl)) (mr1 _ (List.mem_of_getElem? (i := 5) rfl)) (mr5 _ (List.mem_of_getElem? (i := 11) rfl)))) rfl rfl rfl (by decide +kernel) ⟨Nat.le_of_ble_eq_true rfl, Nat.le_of_ble_eq_true rfl⟩) (Wd.preS zo hA hZ hw hK) rfl rfl hl.1 rfl (lv_room (Nat.le_of_ble_eq_true rfl)) dX10_back_8 ⟨Nat.le_of_ble_eq_true rfl, Nat.le_of_ble_eq_true rfl⟩) (fun x_2 L1 f1 H locs lx_2 ux_2 ex_2 hw => ?_)
  obtain ⟨rfl, rfl, ex_2⟩ := ex_2
  refine q_if_eq (tgt := 23) hx hb dX10_back_11 (by decide) ⟨lx_2, ux_2⟩ (fun c11 => ?_) (fun c11 => ?_)
  · refine q_iconst hx hb dX10_back_23 ?_
    exact q_ret_z hx hb hr hlocks hK hAe hw (by omega) (Nat.le_of_ble_eq_true rfl) (Nat.le_of_ble_eq_true rfl) dX10_back_24 (by exact ⟨rfl, hs, hE, hv1, Or.inl ⟨by omega, by omega, by omega, q4⟩⟩)
  · refine lv_aload_n hx hb dX10_back_14 rfl (lv_at hl 0 rfl) ?_
    refine q_getr (ci := 8) (C := RX10) (T := TX10) (N := 26) hx hb hts (fun w h => List.mem_cons_of_mem _ (mfX100 w h)) hown hK hw hs.1 hs.2.1 rfl 7 (by decide) (hts _ (List.mem_cons_of_mem _ (mr3 _ (List.mem_of_getElem? (i := 16) rfl)))) (fun _ h => h) rfl (hs.2.2.1 7 rfl).1 dX10_back_15 ?_
    refine lv_iload_n hx hb dX10_back_18 rfl (lv_at hl 1 rfl) ?_
    refine q_iald hx hb hK hw (hs.2.2.1 7 rfl).2.1 1 (hs.2.2.1 7 rfl).2.2 rfl ⟨lx1, ux1⟩ (by omega) (by show _ < ((2 : Nat) : Int); omega) dX10_back_19 (fun x_3 lx_3 ux_3 ex_3 => ?_)
    have e19 : x_3 = aI f0 (ad 7) x1 := ex_3.trans (congrFun Q7 _)
    refine q_if_ge (tgt := 25) hx hb dX10_back_20 (by decide) ⟨lx_3, ux_3⟩ (fun c20 => ?_) (fun c20 => ?_)
    · refine q_iconst hx hb dX10_back_25 ?_
      refine lv_istore_n (lv' := [(2, .int (iI 0)), (0, .ref a0), (1, .int (iI x1))]) hx hb dX10_back_26 rfl hl (by decide) rfl (fun ls hl => ?_)
      have J27 : ∀ (n27 : Nat) (y2_27 : Int) (ly2_27 : -2147483648 ≤ y2_27) (uy2_27 : y2_27 ≤ 2147483647) (L : List Nat) (fw27 : Nat → va_E) (hs : MS cy L0 fw27 a0 ad) (hE : Kp a0 ad [4] [5, 10] f0 fw27) (i1 : 0 ≤ y2_27) (i2 : y2_27 ≤ 528) (cp : ∀ j : Int, 0 ≤ j → j < y2_27 → aI fw27 (ad 4) j = aI f0 (ad 6) (528 * x1 + j)) (hn27 : ((2147483647 : Int) - y2_27).toNat < n27) (H : Heap) (locs : List Loc) (ls : Array Slot) (hw : Wd D A s.heap L0 fw27 H locs) (hl : lv_has ls 3 [(0, .ref a0), (1, .int (iI x1)), (2, .int (iI y2_27))]), W p l e ({ frames := 1, cells := 0, slots := 0, locals := 22 } : Room) s m ([.ref a0, .int (iI x1)] : List Value).toArray below meth c H locs (0 + 0) (0 + 0) (MQ below (Qi D (tq cy) L0 f0 s.heap.size (fun (r : Int) (L1 : List Nat) (f1 : Nat → va_E) => L0 = L1 ∧ MS cy L0 f1 a0 ad ∧ Kp a0 ad [4] [5, 10] f0 f1 ∧ (MV f1 a0 ad ∧ ((r = 0 ∧ (x1 < 0 ∨ 1 < x1 ∨ aI f0 (ad 7) x1 < 0) ∧ fI f1 a0 5 = fI f0 a0 5 ∧ ∀ x : Int, aI f1 (ad 4) x = aI f0 (ad 4) x) ∨ (r = 1 ∧ 0 ≤ x1 ∧ x1 ≤ 1 ∧ 0 ≤ aI f0 (ad 7) x1 ∧ fI f1 a0 5 = aI f0 (ad 7) x1 ∧ ∀ j : Int, 0 ≤ j → j < 528 → aI f1 (ad 4) j = aI f0 (ad 6) (528 * x1 + j)))))) ([.ref a0, .int (iI x1)] : List Value).toArray s 0 0 A) (F0 m 27 ls []) := by
        intro n27
        induction n27 with
        | zero => intro y2_27 ly2_27 uy2_27 L fw27 hs hE i1 i2 cp hn27; exact absurd hn27 (Nat.not_lt_zero _)
        | succ n27 ih27 =>
          intro y2_27 ly2_27 uy2_27 L fw27 hs hE i1 i2 cp hn27 H locs ls hw hl
          have Q6 : aI fw27 (ad 6) = aI f0 (ad 6) := funext fun x => hE.1 6 rfl (by decide) x
          have Q7 : aI fw27 (ad 7) = aI f0 (ad 7) := funext fun x => hE.1 7 rfl (by decide) x
          refine lv_iload_n hx hb dX10_back_27 rfl (lv_at hl 2 rfl) ?_
          refine q_sipush hx hb dX10_back_28 rfl ?_
          refine q_icmp_ge (tgt := 58) hx hb dX10_back_31 (by decide) ⟨ly2_27, uy2_27⟩ ⟨by decide, by decide⟩ (fun c31 => ?_) (fun c31 => ?_)
          · refine lv_aload_n hx hb dX10_back_58 rfl (lv_at hl 0 rfl) ?_
            refine lv_aload_n hx hb dX10_back_59 rfl (lv_at hl 0 rfl) ?_
            refine q_getr (ci := 8) (C := RX10) (T := TX10) (N := 26) hx hb hts (fun w h => List.mem_cons_of_mem _ (mfX100 w h)) hown hK hw hs.1 hs.2.1 rfl 7 (by decide) (hts _ (List.mem_cons_of_mem _ (mr3 _ (List.mem_of_getElem? (i := 16) rfl)))) (fun _ h => h) rfl (hs.2.2.1 7 rfl).1 dX10_back_60 ?_
            refine lv_iload_n hx hb dX10_back_63 rfl (lv_at hl 1 rfl) ?_
            refine q_iald hx hb hK hw (hs.2.2.1 7 rfl).2.1 1 (hs.2.2.1 7 rfl).2.2 rfl ⟨lx1, ux1⟩ (by omega) (by show _ < ((2 : Nat) : Int); omega) dX10_back_64 (fun x_4 lx_4 ux_4 ex_4 => ?_)
            have e64 : x_4 = aI f0 (ad 7) x1 := ex_4.trans (congrFun Q7 _)
            refine q_puti (ci := 8) (C := RX10) (T := TX10) (N := 26) hx hb hts (fun w h => List.mem_cons_of_mem _ (mfX100 w h)) hown hK hw hs.1 hs.2.1 rfl 5 (by decide) (hts _ (List.mem_cons_of_mem _ (mr19 _ (List.mem_of_getElem? (i := 1) rfl)))) (fun _ h => h) tyX10 tyX10_ok nmX10 rfl (ty := .int) (by decide +kernel) rfl rfl dX10_back_65 (fun H locs hw => ?_)
            obtain ⟨f_5, ef_5⟩ : ∃ g : Nat → va_E, g = pU fw27 a0 5 (.int (iI x_4)) := ⟨_, rfl⟩
            have v5_f_5 : fI f_5 a0 5 = x_4 := by rw [ef_5]; exact fI_pU_self hs.2.1 rfl ⟨lx_4, ux_4⟩
            have hE := hE.trans (show Kp a0 ad [4] [5, 10] fw27 f_5 by rw [ef_5]; exact Kp_pU hs (by decide))
            have hs_ := hs
            have hs : MS cy L0 f_5 a0 ad := by rw [ef_5]; exact MS_pU hs rfl
            rw [← ef_5] at hw
            have Q6 : aI f_5 (ad 6) = aI f0 (ad 6) := funext fun x => hE.1 6 rfl (by decide) x
            have Q7 : aI f_5 (ad 7) = aI f0 (ad 7) := funext fun x => hE.1 7 rfl (by decide) x
            have hvz : MV f_5 a0 ad := hi.get (c := x1) (by omega) (by omega) (by omega) (v5_f_5.trans e64) (fun j q0 q1 => Eq.trans (by rw [ef_5]; exact hs_.aI_pU _ _) (cp j q0 (by omega)))
            have p65 : ∀ j : Int, 0 ≤ j → j < 528 → aI f_5 (ad 4) j = aI f0 (ad 6) (528 * x1 + j) := fun j q0 q1 => Eq.trans (by rw [ef_5]; exact hs_.aI_pU _ _) (cp j q0 (by omega))
            have m65 := v5_f_5.trans e64
            refine q_iconst hx hb dX10_back_68 ?_
            exact q_ret_z hx hb hr hlocks hK hAe hw (by omega) (Nat.le_of_ble_eq_true rfl) (Nat.le_of_ble_eq_true rfl) dX10_back_69 (by exact ⟨rfl, hs, hE, hvz, Or.inr ⟨by omega, by omega, by omega, by omega, m65, p65⟩⟩)
          · refine lv_aload_n hx hb dX10_back_34 rfl (lv_at hl 0 rfl) ?_
            refine q_getr (ci := 8) (C := RX10) (T := TX10) (N := 26) hx hb hts (fun w h => List.mem_cons_of_mem _ (mfX100 w h)) hown hK hw hs.1 hs.2.1 rfl 4 (by decide) (hts _ (List.mem_cons_of_mem _ (mr3 _ (List.mem_of_getElem? (i := 14) rfl)))) (fun _ h => h) rfl (hs.2.2.1 4 rfl).1 dX10_back_35 ?_
            refine lv_iload_n hx hb dX10_back_38 rfl (lv_at hl 2 rfl) ?_
            refine lv_aload_n hx hb dX10_back_39 rfl (lv_at hl 0 rfl) ?_
            refine q_getr (ci := 8) (C := RX10) (T := TX10) (N := 26) hx hb hts (fun w h => List.mem_cons_of_mem _ (mfX100 w h)) hown hK hw hs.1 hs.2.1 rfl 6 (by decide) (hts _ (List.mem_cons_of_mem _ (mr3 _ (List.mem_of_getElem? (i := 15) rfl)))) (fun _ h => h) rfl (hs.2.2.1 6 rfl).1 dX10_back_40 ?_
            refine q_sipush hx hb dX10_back_43 rfl ?_
            refine lv_iload_n hx hb dX10_back_46 rfl (lv_at hl 1 rfl) ?_
            first | refine q_imul hx hb dX10_back_47 ⟨by omega, by omega⟩ (fun x_6 lx_6 ux_6 ex_6 => ?_) | refine q_imulw hx hb dX10_back_47 (fun x_6 lx_6 ux_6 ex_6 => ?_)
            refine lv_iload_n hx hb dX10_back_48 rfl (lv_at hl 2 rfl) ?_
            first | refine q_iadd hx hb dX10_back_49 ⟨by omega, by omega⟩ (fun x_7 lx_7 ux_7 ex_7 => ?_) | refine q_iaddw hx hb dX10_back_49 (fun x_7 lx_7 ux_7 ex_7 => ?_)
            refine q_iald hx hb hK hw (hs.2.2.1 6 rfl).2.1 1 (hs.2.2.1 6 rfl).2.2 rfl ⟨lx_7, ux_7⟩ (by omega) (by show _ < ((1056 : Nat) : Int); omega) dX10_back_50 (fun x_8 lx_8 ux_8 ex_8 => ?_)
            have e50 : x_8 = aI f0 (ad 6) (528 * x1 + y2_27) := ex_8.trans ((congrFun Q6 _).trans (aI_cg (by omega)))
            refine q_iast hx hb hK hw (hs.2.2.1 4 rfl).2.1 1 (hs.2.2.1 4 rfl).2.2 rfl ⟨ly2_27, uy2_27⟩ (by omega) (by show _ < ((528 : Nat) : Int); omega) dX10_back_51 (fun H locs hw => ?_)
            obtain ⟨f_9, ef_9⟩ : ∃ g : Nat → va_E, g = aU fw27 (ad 4) y2_27 (iI x_8) := ⟨_, rfl⟩
            have t5_f_9 : fI f_9 a0 5 = fI fw27 a0 5 := by rw [ef_9]; exact hs.fI_aU rfl _ _
            have hE := hE.trans (show Kp a0 ad [4] [5, 10] fw27 f_9 by rw [ef_9]; exact Kp_aU hs rfl (by decide))
            have hs_ := hs
            have hs : MS cy L0 f_9 a0 ad := by rw [ef_9]; exact MS_aU hs rfl
            rw [← ef_9] at hw
            have Q6 : aI f_9 (ad 6) = aI f0 (ad 6) := funext fun x => hE.1 6 rfl (by decide) x
            have Q7 : aI f_9 (ad 7) = aI f0 (ad 7) := funext fun x => hE.1 7 rfl (by decide) x
            have v51 : aI f_9 (ad 4) y2_27 = aI f0 (ad 6) (528 * x1 + y2_27) := Eq.trans (by rw [ef_9]; exact hs_.aI_self rfl ⟨by omega, by omega⟩) e50
            have cp' : ∀ j : Int, 0 ≤ j → j < y2_27 + 1 → aI f_9 (ad 4) j = aI f0 (ad 6) (528 * x1 + j) := by
              intro j q0 q1
              by_cases ej : j = y2_27
              · rw [ej]; exact v51
              · exact Eq.trans (by rw [ef_9]; exact hs_.aI_nj rfl (by omega) (by omega) (by omega)) (cp j q0 (by omega))
            obtain ⟨x_10, lx_10, ux_10, hx_10, ex_10⟩ := q_inc y2_27 (1)
            try (replace ex_10 : x_10 = y2_27 + (1) := by omega)
            refine lv_iinc (v := iI x_10) (lv' := [(2, .int (iI x_10)), (0, .ref a0), (1, .int (iI x1))]) hx hb dX10_back_52 hl (k := 2) rfl hx_10 (by decide) rfl (fun ls hl => ?_)
            refine lv_goto (tgt := 27) hx hb dX10_back_55 (by decide) ?_
            exact ih27 x_10 lx_10 ux_10 L0 f_9 hs hE (by omega) (by omega) (by first | (intro j q0 q1; exfalso; omega) | exact fun j q0 q1 => cp' j q0 (by omega) | fail "none") (by omega) _ _ _ hw (lv_sub hl [1, 2, 0] rfl)
      exact J27 ((((2147483647 : Int) - 0).toNat) + 1) 0 (by decide) (by decide) L0 f_1 hs hE (by omega) (by omega) (by first | (intro j q0 q1; exfalso; omega) | exact fun j q0 q1 => cp' j q0 (by omega) | fail "none") (by omega) _ _ _ hw (lv_sub hl [1, 2, 0] rfl)
    · refine q_iconst hx hb dX10_back_23 ?_
      exact q_ret_z hx hb hr hlocks hK hAe hw (by omega) (Nat.le_of_ble_eq_true rfl) (Nat.le_of_ble_eq_true rfl) dX10_back_24 (by exact ⟨rfl, hs, hE, hv1, Or.inl ⟨by omega, by omega, by omega, q4⟩⟩)
