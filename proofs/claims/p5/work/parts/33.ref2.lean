set_option maxHeartbeats 4000000 in
set_option maxRecDepth 100000 in
theorem c_X10_next {Z : Zt} (zo : Zok Z) (l : Launch) (D : va_G) (cy : Cy) (L0 : List Nat) (f0 : Nat → va_E) (a0 : Nat) (ad : Nat → Nat) (hs : MS cy L0 f0 a0 ad) (p1 : 0 ≤ fI f0 a0 15) (p2 : fI f0 a0 15 ≤ 168) (p3 : 0 ≤ fI f0 a0 16) (p4 : fI f0 a0 16 ≤ 168) (p5 : fI f0 a0 14 ≤ 168) : Cv Z l yX10_next (Cond.code yX10_next cX10_next 3 none :: TB) ({ frames := 1, cells := 0, slots := 0, locals := 21 } : Room) 0 0 D (tq cy) [.ref a0] L0 f0 (fun (L1 : List Nat) (f1 : Nat → va_E) => L0 = L1 ∧ MS cy L0 f1 a0 ad ∧ Kp a0 ad [] [15, 16, 17, 18, 19] f0 f1 ∧ (0 ≤ fI f1 a0 15 ∧ fI f1 a0 15 ≤ 168 ∧ 0 ≤ fI f1 a0 16 ∧ fI f1 a0 16 ≤ 168 ∧ (fI f0 a0 20 ≤ 0 → fI f1 a0 17 = 1 → fI f0 a0 16 < fI f1 a0 16) ∧ (0 < fI f0 a0 20 → fI f1 a0 17 = fI f0 a0 17))) := by
  refine Cv.enter (cc := cX10_next) (n := 3) rfl (plainFor_of_name (by decide)) (Nat.le_of_ble_eq_true rfl) ?_
  intro p e s m below meth c ls A hx hb hr hts hown hlocks hnm hml hK hA hAe hw hZ hl
  have hown : s.vm.findClass RX10 = some m.cls := hown
  have hl : lv_has ls 3 [(0, .ref a0)] := hl
  have hN : ZN s := (zo.2.2.2.2 _ _ _ hZ).2
  have hE : Kp a0 ad [] [15, 16, 17, 18, 19] f0 f0 := Kp.refl _ _ _ _ _
  refine lv_aload_n hx hb dX10_next_0 rfl (lv_at hl 0 rfl) ?_
  refine q_geti (ci := 8) (C := RX10) (T := TX10) (N := 26) hx hb hts (fun w h => List.mem_cons_of_mem _ (mfX100 w h)) hown hK hw hs.1 hs.2.1 rfl 20 (by decide) (hts _ (List.mem_cons_of_mem _ (mr19 _ (List.mem_of_getElem? (i := 2) rfl)))) (fun _ h => h) rfl dX10_next_1 (fun x_1 lx_1 ux_1 ex_1 => ?_)
  refine q_if_le (tgt := 8) hx hb dX10_next_4 (by decide) ⟨lx_1, ux_1⟩ (fun c4 => ?_) (fun c4 => ?_)
  · refine lv_aload_n hx hb dX10_next_8 rfl (lv_at hl 0 rfl) ?_
    refine q_geti (ci := 8) (C := RX10) (T := TX10) (N := 26) hx hb hts (fun w h => List.mem_cons_of_mem _ (mfX100 w h)) hown hK hw hs.1 hs.2.1 rfl 16 (by decide) (hts _ (List.mem_cons_of_mem _ (mr19 _ (List.mem_of_getElem? (i := 3) rfl)))) (fun _ h => h) rfl dX10_next_9 (fun x_2 lx_2 ux_2 ex_2 => ?_)
    refine lv_istore_n (lv' := [(1, .int (iI x_2)), (0, .ref a0)]) hx hb dX10_next_12 rfl hl (by decide) rfl (fun ls hl => ?_)
    have J13 : ∀ (n13 : Nat) (y1_13 : Int) (ly1_13 : -2147483648 ≤ y1_13) (uy1_13 : y1_13 ≤ 2147483647) (i0 : fI f0 a0 16 ≤ y1_13) (i1 : 0 ≤ y1_13) (i2 : y1_13 ≤ 168) (hn13 : ((2147483647 : Int) - y1_13).toNat < n13) (H : Heap) (locs : List Loc) (ls : Array Slot) (hw : Wd D A s.heap L0 f0 H locs) (hl : lv_has ls 3 [(0, .ref a0), (1, .int (iI y1_13))]), W p l e ({ frames := 1, cells := 0, slots := 0, locals := 21 } : Room) s m ([.ref a0] : List Value).toArray below meth c H locs (0) (0) (MQ below (Qv D (tq cy) L0 f0 s.heap.size (fun (L1 : List Nat) (f1 : Nat → va_E) => L0 = L1 ∧ MS cy L0 f1 a0 ad ∧ Kp a0 ad [] [15, 16, 17, 18, 19] f0 f1 ∧ (0 ≤ fI f1 a0 15 ∧ fI f1 a0 15 ≤ 168 ∧ 0 ≤ fI f1 a0 16 ∧ fI f1 a0 16 ≤ 168 ∧ (fI f0 a0 20 ≤ 0 → fI f1 a0 17 = 1 → fI f0 a0 16 < fI f1 a0 16) ∧ (0 < fI f0 a0 20 → fI f1 a0 17 = fI f0 a0 17)))) ([.ref a0] : List Value).toArray s 0 0 A) (F0 m 13 ls []) := by
      intro n13
      induction n13 with
      | zero => intro y1_13 ly1_13 uy1_13 i0 i1 i2 hn13; exact absurd hn13 (Nat.not_lt_zero _)
      | succ n13 ih13 =>
        intro y1_13 ly1_13 uy1_13 i0 i1 i2 hn13 H locs ls hw hl
        refine lv_aload_n hx hb dX10_next_13 rfl (lv_at hl 0 rfl) ?_
        refine lv_iload_n hx hb dX10_next_14 rfl (lv_at hl 1 rfl) ?_
        refine q_call_i hA hK hw (va_runV (As := [.int (iI y1_13)]) (rest := []) ⟨hx, hb, hml, hown, hts⟩ (c_X10_byteAt zo l D cy L0 f0 a0 y1_13 ly1_13 uy1_13 ad hs (by omega) (by omega) _) (cwV 1 hts (gT (inV (mr19 _ (List.mem_of_getElem? (i := 13) rfl)) (mr19 _ (List.mem_of_getElem? (i := 14) rfl)) (mr19 _ (List.mem_of_getElem? (i := 15) rfl)) (mr1 _ (List.mem_of_getElem? (i := 5) rfl)) (mr19 _ (List.mem_of_getElem? (i := 16) rfl)))) rfl rfl rfl (by decide +kernel) ⟨Nat.le_of_ble_eq_true rfl, Nat.le_of_ble_eq_true rfl⟩) (Wd.preV zo hA hZ hw hK hs.1 hs.2.1 rfl) rfl rfl hl.1 rfl (lv_room (Nat.le_of_ble_eq_true rfl)) dX10_next_15 ⟨Nat.le_of_ble_eq_true rfl, Nat.le_of_ble_eq_true rfl⟩) (fun x_3 L1 f1 H locs lx_3 ux_3 ex_3 hw => ?_)
        obtain ⟨rfl, rfl, ex_3⟩ := ex_3
        refine q_bipush hx hb dX10_next_18 rfl ?_
        refine q_icmp_ne (tgt := 29) hx hb dX10_next_20 (by decide) ⟨lx_3, ux_3⟩ ⟨by decide, by decide⟩ (fun c20 => ?_) (fun c20 => ?_)
        · refine lv_aload_n hx hb dX10_next_29 rfl (lv_at hl 0 rfl) ?_
          refine lv_iload_n hx hb dX10_next_30 rfl (lv_at hl 1 rfl) ?_
          refine q_puti (ci := 8) (C := RX10) (T := TX10) (N := 26) hx hb hts (fun w h => List.mem_cons_of_mem _ (mfX100 w h)) hown hK hw hs.1 hs.2.1 rfl 15 (by decide) (hts _ (List.mem_cons_of_mem _ (mr19 _ (List.mem_of_getElem? (i := 8) rfl)))) (fun _ h => h) tyX10 tyX10_ok nmX10 rfl (ty := .int) (by decide +kernel) rfl rfl dX10_next_31 (fun H locs hw => ?_)
          obtain ⟨f_4, ef_4⟩ : ∃ g : Nat → va_E, g = pU f0 a0 15 (.int (iI y1_13)) := ⟨_, rfl⟩
          have v15_f_4 : fI f_4 a0 15 = y1_13 := by rw [ef_4]; exact fI_pU_self hs.2.1 rfl ⟨ly1_13, uy1_13⟩
          have t14_f_4 : fI f_4 a0 14 = fI f0 a0 14 := by rw [ef_4]; exact fI_pU (Or.inr (by decide))
          have t16_f_4 : fI f_4 a0 16 = fI f0 a0 16 := by rw [ef_4]; exact fI_pU (Or.inr (by decide))
          have t17_f_4 : fI f_4 a0 17 = fI f0 a0 17 := by rw [ef_4]; exact fI_pU (Or.inr (by decide))
          have hE := hE.trans (show Kp a0 ad [] [15, 16, 17, 18, 19] f0 f_4 by rw [ef_4]; exact Kp_pU hs (by decide))
          have hs : MS cy L0 f_4 a0 ad := by rw [ef_4]; exact MS_pU hs rfl
          rw [← ef_4] at hw
          refine lv_aload_n hx hb dX10_next_34 rfl (lv_at hl 0 rfl) ?_
          refine lv_iload_n hx hb dX10_next_35 rfl (lv_at hl 1 rfl) ?_
          refine q_iconst hx hb dX10_next_36 ?_
          first | refine q_iadd hx hb dX10_next_37 ⟨by omega, by omega⟩ (fun x_5 lx_5 ux_5 ex_5 => ?_) | refine q_iaddw hx hb dX10_next_37 (fun x_5 lx_5 ux_5 ex_5 => ?_)
          refine q_puti (ci := 8) (C := RX10) (T := TX10) (N := 26) hx hb hts (fun w h => List.mem_cons_of_mem _ (mfX100 w h)) hown hK hw hs.1 hs.2.1 rfl 16 (by decide) (hts _ (List.mem_cons_of_mem _ (mr19 _ (List.mem_of_getElem? (i := 3) rfl)))) (fun _ h => h) tyX10 tyX10_ok nmX10 rfl (ty := .int) (by decide +kernel) rfl rfl dX10_next_38 (fun H locs hw => ?_)
          obtain ⟨f_6, ef_6⟩ : ∃ g : Nat → va_E, g = pU f_4 a0 16 (.int (iI x_5)) := ⟨_, rfl⟩
          have v16_f_6 : fI f_6 a0 16 = x_5 := by rw [ef_6]; exact fI_pU_self hs.2.1 rfl ⟨lx_5, ux_5⟩
          have t14_f_6 : fI f_6 a0 14 = fI f_4 a0 14 := by rw [ef_6]; exact fI_pU (Or.inr (by decide))
          have t15_f_6 : fI f_6 a0 15 = fI f_4 a0 15 := by rw [ef_6]; exact fI_pU (Or.inr (by decide))
          have t17_f_6 : fI f_6 a0 17 = fI f_4 a0 17 := by rw [ef_6]; exact fI_pU (Or.inr (by decide))
          have hE := hE.trans (show Kp a0 ad [] [15, 16, 17, 18, 19] f_4 f_6 by rw [ef_6]; exact Kp_pU hs (by decide))
          have hs : MS cy L0 f_6 a0 ad := by rw [ef_6]; exact MS_pU hs rfl
          rw [← ef_6] at hw
          refine lv_aload_n hx hb dX10_next_41 rfl (lv_at hl 0 rfl) ?_
          refine lv_iload_n hx hb dX10_next_42 rfl (lv_at hl 1 rfl) ?_
          refine q_call_i hA hK hw (va_runV (As := [.int (iI y1_13)]) (rest := []) ⟨hx, hb, hml, hown, hts⟩ (c_X10_byteAt zo l D cy L0 f_6 a0 y1_13 ly1_13 uy1_13 ad hs (by omega) (by omega) _) (cwV 1 hts (gT (inV (mr19 _ (List.mem_of_getElem? (i := 13) rfl)) (mr19 _ (List.mem_of_getElem? (i := 14) rfl)) (mr19 _ (List.mem_of_getElem? (i := 15) rfl)) (mr1 _ (List.mem_of_getElem? (i := 5) rfl)) (mr19 _ (List.mem_of_getElem? (i := 16) rfl)))) rfl rfl rfl (by decide +kernel) ⟨Nat.le_of_ble_eq_true rfl, Nat.le_of_ble_eq_true rfl⟩) (Wd.preV zo hA hZ hw hK hs.1 hs.2.1 rfl) rfl rfl hl.1 rfl (lv_room (Nat.le_of_ble_eq_true rfl)) dX10_next_43 ⟨Nat.le_of_ble_eq_true rfl, Nat.le_of_ble_eq_true rfl⟩) (fun x_7 L1 f1 H locs lx_7 ux_7 ex_7 hw => ?_)
          obtain ⟨rfl, rfl, ex_7⟩ := ex_7
          have r8_x_7 : y1_13 = y1_13 → aI f_6 (ad 8) y1_13 = aI f0 (ad 8) y1_13 := fun hk => by rw [hk]; exact hE.1 8 rfl (by decide) _
          have h14_x_7 := hE.2 14 (by decide)
          refine lv_istore_n (lv' := [(2, .int (iI x_7)), (0, .ref a0), (1, .int (iI y1_13))]) hx hb dX10_next_46 rfl hl (by decide) rfl (fun ls hl => ?_)
          refine lv_aload_n hx hb dX10_next_47 rfl (lv_at hl 1 rfl) ?_
          refine q_iconst hx hb dX10_next_48 ?_
          refine q_puti (ci := 8) (C := RX10) (T := TX10) (N := 26) hx hb hts (fun w h => List.mem_cons_of_mem _ (mfX100 w h)) hown hK hw hs.1 hs.2.1 rfl 17 (by decide) (hts _ (List.mem_cons_of_mem _ (mr19 _ (List.mem_of_getElem? (i := 9) rfl)))) (fun _ h => h) tyX10 tyX10_ok nmX10 rfl (ty := .int) (by decide +kernel) rfl rfl dX10_next_49 (fun H locs hw => ?_)
          obtain ⟨f_8, ef_8⟩ : ∃ g : Nat → va_E, g = pU f_6 a0 17 (.int (iI 3)) := ⟨_, rfl⟩
          have v17_f_8 : fI f_8 a0 17 = 3 := by rw [ef_8]; exact fI_pU_self hs.2.1 rfl ⟨by decide, by decide⟩
          have t14_f_8 : fI f_8 a0 14 = fI f_6 a0 14 := by rw [ef_8]; exact fI_pU (Or.inr (by decide))
          have t15_f_8 : fI f_8 a0 15 = fI f_6 a0 15 := by rw [ef_8]; exact fI_pU (Or.inr (by decide))
          have t16_f_8 : fI f_8 a0 16 = fI f_6 a0 16 := by rw [ef_8]; exact fI_pU (Or.inr (by decide))
          have hE := hE.trans (show Kp a0 ad [] [15, 16, 17, 18, 19] f_6 f_8 by rw [ef_8]; exact Kp_pU hs (by decide))
          have hs : MS cy L0 f_8 a0 ad := by rw [ef_8]; exact MS_pU hs rfl
          rw [← ef_8] at hw
          refine lv_aload_n hx hb dX10_next_52 rfl (lv_at hl 1 rfl) ?_
          refine q_lconst0 hx hb dX10_next_53 ?_
          refine q_putl (ci := 8) (C := RX10) (T := TX10) (N := 26) hx hb hts (fun w h => List.mem_cons_of_mem _ (mfX100 w h)) hown hK hw hs.1 hs.2.1 rfl 18 (by decide) (hts _ (List.mem_cons_of_mem _ (mr19 _ (List.mem_of_getElem? (i := 10) rfl)))) (fun _ h => h) tyX10 tyX10_ok nmX10 rfl (ty := .long) (by decide +kernel) rfl rfl dX10_next_54 (fun H locs hw => ?_)
          obtain ⟨f_9, ef_9⟩ : ∃ g : Nat → va_E, g = pU f_8 a0 18 (.long (lJ 0)) := ⟨_, rfl⟩
          have t14_f_9 : fI f_9 a0 14 = fI f_8 a0 14 := by rw [ef_9]; exact fI_pU (Or.inr (by decide))
          have t15_f_9 : fI f_9 a0 15 = fI f_8 a0 15 := by rw [ef_9]; exact fI_pU (Or.inr (by decide))
          have t16_f_9 : fI f_9 a0 16 = fI f_8 a0 16 := by rw [ef_9]; exact fI_pU (Or.inr (by decide))
          have t17_f_9 : fI f_9 a0 17 = fI f_8 a0 17 := by rw [ef_9]; exact fI_pU (Or.inr (by decide))
          have hE := hE.trans (show Kp a0 ad [] [15, 16, 17, 18, 19] f_8 f_9 by rw [ef_9]; exact Kp_pU hs (by decide))
          have hs : MS cy L0 f_9 a0 ad := by rw [ef_9]; exact MS_pL hs rfl
          rw [← ef_9] at hw
          refine lv_aload_n hx hb dX10_next_57 rfl (lv_at hl 1 rfl) ?_
          refine q_iconst hx hb dX10_next_58 ?_
          refine q_puti (ci := 8) (C := RX10) (T := TX10) (N := 26) hx hb hts (fun w h => List.mem_cons_of_mem _ (mfX100 w h)) hown hK hw hs.1 hs.2.1 rfl 19 (by decide) (hts _ (List.mem_cons_of_mem _ (mr19 _ (List.mem_of_getElem? (i := 11) rfl)))) (fun _ h => h) tyX10 tyX10_ok nmX10 rfl (ty := .int) (by decide +kernel) rfl rfl dX10_next_59 (fun H locs hw => ?_)
          obtain ⟨f_10, ef_10⟩ : ∃ g : Nat → va_E, g = pU f_9 a0 19 (.int (iI 0)) := ⟨_, rfl⟩
          have v19_f_10 : fI f_10 a0 19 = 0 := by rw [ef_10]; exact fI_pU_self hs.2.1 rfl ⟨by decide, by decide⟩
          have t14_f_10 : fI f_10 a0 14 = fI f_9 a0 14 := by rw [ef_10]; exact fI_pU (Or.inr (by decide))
          have t15_f_10 : fI f_10 a0 15 = fI f_9 a0 15 := by rw [ef_10]; exact fI_pU (Or.inr (by decide))
          have t16_f_10 : fI f_10 a0 16 = fI f_9 a0 16 := by rw [ef_10]; exact fI_pU (Or.inr (by decide))
          have t17_f_10 : fI f_10 a0 17 = fI f_9 a0 17 := by rw [ef_10]; exact fI_pU (Or.inr (by decide))
          have hE := hE.trans (show Kp a0 ad [] [15, 16, 17, 18, 19] f_9 f_10 by rw [ef_10]; exact Kp_pU hs (by decide))
          have hs : MS cy L0 f_10 a0 ad := by rw [ef_10]; exact MS_pU hs rfl
          rw [← ef_10] at hw
          refine lv_iload_n hx hb dX10_next_62 rfl (lv_at hl 0 rfl) ?_
          refine q_iconst hx hb dX10_next_63 ?_
          refine q_icmp_ne (tgt := 80) hx hb dX10_next_64 (by decide) ⟨lx_7, ux_7⟩ ⟨by decide, by decide⟩ (fun c64 => ?_) (fun c64 => ?_)
          · refine lv_iload_n hx hb dX10_next_80 rfl (lv_at hl 0 rfl) ?_
            refine q_call_i hA hK hw (va_runS (As := [.int (iI x_7)]) (rest := []) ⟨hx, hb, hml, hown, hts⟩ (c_X10_isSmall zo l D cy L0 f_10 x_7 lx_7 ux_7 _) (va_cwS 1 hts (gT (inS (mr19 _ (List.mem_of_getElem? (i := 17) rfl)) (mr19 _ (List.mem_of_getElem? (i := 18) rfl)) (mr1 _ (List.mem_of_getElem? (i := 5) rfl)) (mr19 _ (List.mem_of_getElem? (i := 19) rfl)))) rfl rfl rfl (by decide +kernel) ⟨Nat.le_of_ble_eq_true rfl, Nat.le_of_ble_eq_true rfl⟩) (Wd.preS zo hA hZ hw hK) rfl rfl hl.1 rfl (lv_room (Nat.le_of_ble_eq_true rfl)) dX10_next_81 ⟨Nat.le_of_ble_eq_true rfl, Nat.le_of_ble_eq_true rfl⟩) (fun x_11 L1 f1 H locs lx_11 ux_11 ex_11 hw => ?_)
            obtain ⟨rfl, rfl, ex_11⟩ := ex_11
            refine q_if_eq (tgt := 161) hx hb dX10_next_84 (by decide) ⟨lx_11, ux_11⟩ (fun c84 => ?_) (fun c84 => ?_)
            · refine lv_iload_n hx hb dX10_next_161 rfl (lv_at hl 0 rfl) ?_
              refine q_call_i hA hK hw (va_runS (As := [.int (iI x_7)]) (rest := []) ⟨hx, hb, hml, hown, hts⟩ (c_X10_isDigit zo l D cy L0 f_10 x_7 lx_7 ux_7 _) (va_cwS 1 hts (gT (inS (mr19 _ (List.mem_of_getElem? (i := 20) rfl)) (mr19 _ (List.mem_of_getElem? (i := 21) rfl)) (mr1 _ (List.mem_of_getElem? (i := 5) rfl)) (mr19 _ (List.mem_of_getElem? (i := 22) rfl)))) rfl rfl rfl (by decide +kernel) ⟨Nat.le_of_ble_eq_true rfl, Nat.le_of_ble_eq_true rfl⟩) (Wd.preS zo hA hZ hw hK) rfl rfl hl.1 rfl (lv_room (Nat.le_of_ble_eq_true rfl)) dX10_next_162 ⟨Nat.le_of_ble_eq_true rfl, Nat.le_of_ble_eq_true rfl⟩) (fun x_12 L1 f1 H locs lx_12 ux_12 ex_12 hw => ?_)
              obtain ⟨rfl, rfl, ex_12⟩ := ex_12
              refine q_if_eq (tgt := 252) hx hb dX10_next_165 (by decide) ⟨lx_12, ux_12⟩ (fun c165 => ?_) (fun c165 => ?_)
              · exact q_ret_v hx hb hr hlocks hK hAe hw (Nat.le_of_ble_eq_true rfl) (Nat.le_of_ble_eq_true rfl) dX10_next_252 (by exact ⟨rfl, hs, hE, by first | trivial | omega⟩)
              · refine lv_aload_n hx hb dX10_next_168 rfl (lv_at hl 1 rfl) ?_
                refine lv_iload_n hx hb dX10_next_169 rfl (lv_at hl 2 rfl) ?_
                refine q_puti (ci := 8) (C := RX10) (T := TX10) (N := 26) hx hb hts (fun w h => List.mem_cons_of_mem _ (mfX100 w h)) hown hK hw hs.1 hs.2.1 rfl 16 (by decide) (hts _ (List.mem_cons_of_mem _ (mr19 _ (List.mem_of_getElem? (i := 3) rfl)))) (fun _ h => h) tyX10 tyX10_ok nmX10 rfl (ty := .int) (by decide +kernel) rfl rfl dX10_next_170 (fun H locs hw => ?_)
                obtain ⟨f_13, ef_13⟩ : ∃ g : Nat → va_E, g = pU f_10 a0 16 (.int (iI y1_13)) := ⟨_, rfl⟩
                have v16_f_13 : fI f_13 a0 16 = y1_13 := by rw [ef_13]; exact fI_pU_self hs.2.1 rfl ⟨ly1_13, uy1_13⟩
                have t14_f_13 : fI f_13 a0 14 = fI f_10 a0 14 := by rw [ef_13]; exact fI_pU (Or.inr (by decide))
                have t15_f_13 : fI f_13 a0 15 = fI f_10 a0 15 := by rw [ef_13]; exact fI_pU (Or.inr (by decide))
                have t17_f_13 : fI f_13 a0 17 = fI f_10 a0 17 := by rw [ef_13]; exact fI_pU (Or.inr (by decide))
                have hE := hE.trans (show Kp a0 ad [] [15, 16, 17, 18, 19] f_10 f_13 by rw [ef_13]; exact Kp_pU hs (by decide))
                have hs : MS cy L0 f_13 a0 ad := by rw [ef_13]; exact MS_pU hs rfl
                rw [← ef_13] at hw
                have J173 : ∀ (n173 : Nat) (L : List Nat) (fw173 : Nat → va_E) (hs : MS cy L0 fw173 a0 ad) (hE : Kp a0 ad [] [15, 16, 17, 18, 19] f0 fw173) (i1 : 0 ≤ fI fw173 a0 16) (i2 : fI fw173 a0 16 ≤ 168) (i3 : 0 ≤ fI fw173 a0 15) (i4 : fI fw173 a0 15 ≤ 168) (i5 : fI fw173 a0 14 ≤ 168) (i6 : fI fw173 a0 17 = 3) (hn173 : (168 - fI fw173 a0 16).toNat < n173) (H : Heap) (locs : List Loc) (ls : Array Slot) (hw : Wd D A s.heap L0 fw173 H locs) (hl : lv_has ls 3 [(0, .ref a0), (1, .int (iI y1_13))]), W p l e ({ frames := 1, cells := 0, slots := 0, locals := 21 } : Room) s m ([.ref a0] : List Value).toArray below meth c H locs (0 + 0 + 0 + 0 + 0) (0 + 0 + 0 + 0 + 0) (MQ below (Qv D (tq cy) L0 f0 s.heap.size (fun (L1 : List Nat) (f1 : Nat → va_E) => L0 = L1 ∧ MS cy L0 f1 a0 ad ∧ Kp a0 ad [] [15, 16, 17, 18, 19] f0 f1 ∧ (0 ≤ fI f1 a0 15 ∧ fI f1 a0 15 ≤ 168 ∧ 0 ≤ fI f1 a0 16 ∧ fI f1 a0 16 ≤ 168 ∧ (fI f0 a0 20 ≤ 0 → fI f1 a0 17 = 1 → fI f0 a0 16 < fI f1 a0 16) ∧ (0 < fI f0 a0 20 → fI f1 a0 17 = fI f0 a0 17)))) ([.ref a0] : List Value).toArray s 0 0 A) (F0 m 173 ls []) := by
                  intro n173
                  induction n173 with
                  | zero => intro L fw173 hs hE i1 i2 i3 i4 i5 i6 hn173; exact absurd hn173 (Nat.not_lt_zero _)
                  | succ n173 ih173 =>
                    intro L fw173 hs hE i1 i2 i3 i4 i5 i6 hn173 H locs ls hw hl
                    refine lv_aload_n hx hb dX10_next_173 rfl (lv_at hl 0 rfl) ?_
                    refine lv_aload_n hx hb dX10_next_174 rfl (lv_at hl 0 rfl) ?_
                    refine q_geti (ci := 8) (C := RX10) (T := TX10) (N := 26) hx hb hts (fun w h => List.mem_cons_of_mem _ (mfX100 w h)) hown hK hw hs.1 hs.2.1 rfl 16 (by decide) (hts _ (List.mem_cons_of_mem _ (mr19 _ (List.mem_of_getElem? (i := 3) rfl)))) (fun _ h => h) rfl dX10_next_175 (fun x_14 lx_14 ux_14 ex_14 => ?_)
                    refine q_call_i hA hK hw (va_runV (As := [.int (iI x_14)]) (rest := []) ⟨hx, hb, hml, hown, hts⟩ (c_X10_byteAt zo l D cy L0 fw173 a0 x_14 lx_14 ux_14 ad hs (by omega) (by omega) _) (cwV 1 hts (gT (inV (mr19 _ (List.mem_of_getElem? (i := 13) rfl)) (mr19 _ (List.mem_of_getElem? (i := 14) rfl)) (mr19 _ (List.mem_of_getElem? (i := 15) rfl)) (mr1 _ (List.mem_of_getElem? (i := 5) rfl)) (mr19 _ (List.mem_of_getElem? (i := 16) rfl)))) rfl rfl rfl (by decide +kernel) ⟨Nat.le_of_ble_eq_true rfl, Nat.le_of_ble_eq_true rfl⟩) (Wd.preV zo hA hZ hw hK hs.1 hs.2.1 rfl) rfl rfl hl.1 rfl (lv_room (Nat.le_of_ble_eq_true rfl)) dX10_next_178 ⟨Nat.le_of_ble_eq_true rfl, Nat.le_of_ble_eq_true rfl⟩) (fun x_15 L1 f1 H locs lx_15 ux_15 ex_15 hw => ?_)
                    obtain ⟨rfl, rfl, ex_15⟩ := ex_15
                    refine q_call_i hA hK hw (va_runS (As := [.int (iI x_15)]) (rest := []) ⟨hx, hb, hml, hown, hts⟩ (c_X10_isDigit zo l D cy L0 fw173 x_15 lx_15 ux_15 _) (va_cwS 1 hts (gT (inS (mr19 _ (List.mem_of_getElem? (i := 20) rfl)) (mr19 _ (List.mem_of_getElem? (i := 21) rfl)) (mr1 _ (List.mem_of_getElem? (i := 5) rfl)) (mr19 _ (List.mem_of_getElem? (i := 22) rfl)))) rfl rfl rfl (by decide +kernel) ⟨Nat.le_of_ble_eq_true rfl, Nat.le_of_ble_eq_true rfl⟩) (Wd.preS zo hA hZ hw hK) rfl rfl hl.1 rfl (lv_room (Nat.le_of_ble_eq_true rfl)) dX10_next_181 ⟨Nat.le_of_ble_eq_true rfl, Nat.le_of_ble_eq_true rfl⟩) (fun x_16 L1 f1 H locs lx_16 ux_16 ex_16 hw => ?_)
                    obtain ⟨rfl, rfl, ex_16⟩ := ex_16
                    refine q_if_eq (tgt := 233) hx hb dX10_next_184 (by decide) ⟨lx_16, ux_16⟩ (fun c184 => ?_) (fun c184 => ?_)
                    · refine lv_aload_n hx hb dX10_next_233 rfl (lv_at hl 0 rfl) ?_
                      refine lv_aload_n hx hb dX10_next_234 rfl (lv_at hl 0 rfl) ?_
                      refine q_geti (ci := 8) (C := RX10) (T := TX10) (N := 26) hx hb hts (fun w h => List.mem_cons_of_mem _ (mfX100 w h)) hown hK hw hs.1 hs.2.1 rfl 16 (by decide) (hts _ (List.mem_cons_of_mem _ (mr19 _ (List.mem_of_getElem? (i := 3) rfl)))) (fun _ h => h) rfl dX10_next_235 (fun x_17 lx_17 ux_17 ex_17 => ?_)
                      refine lv_iload_n hx hb dX10_next_238 rfl (lv_at hl 1 rfl) ?_
                      first | refine q_isub hx hb dX10_next_239 ⟨by omega, by omega⟩ (fun x_18 lx_18 ux_18 ex_18 => ?_) | refine q_isubw hx hb dX10_next_239 (fun x_18 lx_18 ux_18 ex_18 => ?_)
                      refine q_iconst hx hb dX10_next_240 ?_
                      refine q_icmp_ge (tgt := 248) hx hb dX10_next_241 (by decide) ⟨lx_18, ux_18⟩ ⟨by decide, by decide⟩ (fun c241 => ?_) (fun c241 => ?_)
                      · refine q_iconst hx hb dX10_next_248 ?_
                        refine q_puti (ci := 8) (C := RX10) (T := TX10) (N := 26) hx hb hts (fun w h => List.mem_cons_of_mem _ (mfX100 w h)) hown hK hw hs.1 hs.2.1 rfl 17 (by decide) (hts _ (List.mem_cons_of_mem _ (mr19 _ (List.mem_of_getElem? (i := 9) rfl)))) (fun _ h => h) tyX10 tyX10_ok nmX10 rfl (ty := .int) (by decide +kernel) rfl rfl dX10_next_249 (fun H locs hw => ?_)
                        obtain ⟨f_19, ef_19⟩ : ∃ g : Nat → va_E, g = pU fw173 a0 17 (.int (iI 3)) := ⟨_, rfl⟩
                        have v17_f_19 : fI f_19 a0 17 = 3 := by rw [ef_19]; exact fI_pU_self hs.2.1 rfl ⟨by decide, by decide⟩
                        have t14_f_19 : fI f_19 a0 14 = fI fw173 a0 14 := by rw [ef_19]; exact fI_pU (Or.inr (by decide))
                        have t15_f_19 : fI f_19 a0 15 = fI fw173 a0 15 := by rw [ef_19]; exact fI_pU (Or.inr (by decide))
                        have t16_f_19 : fI f_19 a0 16 = fI fw173 a0 16 := by rw [ef_19]; exact fI_pU (Or.inr (by decide))
                        have hE := hE.trans (show Kp a0 ad [] [15, 16, 17, 18, 19] fw173 f_19 by rw [ef_19]; exact Kp_pU hs (by decide))
                        have hs : MS cy L0 f_19 a0 ad := by rw [ef_19]; exact MS_pU hs rfl
                        rw [← ef_19] at hw
                        exact q_ret_v hx hb hr hlocks hK hAe hw (Nat.le_of_ble_eq_true rfl) (Nat.le_of_ble_eq_true rfl) dX10_next_252 (by exact ⟨rfl, hs, hE, by first | trivial | omega⟩)
                      · refine q_iconst hx hb dX10_next_244 ?_
                        refine lv_goto (tgt := 249) hx hb dX10_next_245 (by decide) ?_
                        refine q_puti (ci := 8) (C := RX10) (T := TX10) (N := 26) hx hb hts (fun w h => List.mem_cons_of_mem _ (mfX100 w h)) hown hK hw hs.1 hs.2.1 rfl 17 (by decide) (hts _ (List.mem_cons_of_mem _ (mr19 _ (List.mem_of_getElem? (i := 9) rfl)))) (fun _ h => h) tyX10 tyX10_ok nmX10 rfl (ty := .int) (by decide +kernel) rfl rfl dX10_next_249 (fun H locs hw => ?_)
                        obtain ⟨f_20, ef_20⟩ : ∃ g : Nat → va_E, g = pU fw173 a0 17 (.int (iI 2)) := ⟨_, rfl⟩
                        have v17_f_20 : fI f_20 a0 17 = 2 := by rw [ef_20]; exact fI_pU_self hs.2.1 rfl ⟨by decide, by decide⟩
                        have t14_f_20 : fI f_20 a0 14 = fI fw173 a0 14 := by rw [ef_20]; exact fI_pU (Or.inr (by decide))
                        have t15_f_20 : fI f_20 a0 15 = fI fw173 a0 15 := by rw [ef_20]; exact fI_pU (Or.inr (by decide))
                        have t16_f_20 : fI f_20 a0 16 = fI fw173 a0 16 := by rw [ef_20]; exact fI_pU (Or.inr (by decide))
                        have hE := hE.trans (show Kp a0 ad [] [15, 16, 17, 18, 19] fw173 f_20 by rw [ef_20]; exact Kp_pU hs (by decide))
                        have hs : MS cy L0 f_20 a0 ad := by rw [ef_20]; exact MS_pU hs rfl
                        rw [← ef_20] at hw
                        exact q_ret_v hx hb hr hlocks hK hAe hw (Nat.le_of_ble_eq_true rfl) (Nat.le_of_ble_eq_true rfl) dX10_next_252 (by exact ⟨rfl, hs, hE, by first | trivial | omega⟩)
                    · refine lv_aload_n hx hb dX10_next_187 rfl (lv_at hl 0 rfl) ?_
                      refine q_geti (ci := 8) (C := RX10) (T := TX10) (N := 26) hx hb hts (fun w h => List.mem_cons_of_mem _ (mfX100 w h)) hown hK hw hs.1 hs.2.1 rfl 16 (by decide) (hts _ (List.mem_cons_of_mem _ (mr19 _ (List.mem_of_getElem? (i := 3) rfl)))) (fun _ h => h) rfl dX10_next_188 (fun x_21 lx_21 ux_21 ex_21 => ?_)
                      refine lv_iload_n hx hb dX10_next_191 rfl (lv_at hl 1 rfl) ?_
                      first | refine q_isub hx hb dX10_next_192 ⟨by omega, by omega⟩ (fun x_22 lx_22 ux_22 ex_22 => ?_) | refine q_isubw hx hb dX10_next_192 (fun x_22 lx_22 ux_22 ex_22 => ?_)
                      refine q_iconst hx hb dX10_next_193 ?_
                      have J220 : ∀ (L : List Nat) (fw220 : Nat → va_E) (hs : MS cy L0 fw220 a0 ad) (hE : Kp a0 ad [] [15, 16, 17, 18, 19] f0 fw220) (k0 : fI fw220 a0 16 = fI fw173 a0 16) (k1 : 0 ≤ fI fw220 a0 16) (k2 : fI fw220 a0 16 ≤ 167) (k3 : 0 ≤ fI fw220 a0 15) (k4 : fI fw220 a0 15 ≤ 168) (k5 : fI fw220 a0 14 ≤ 168) (k6 : fI fw220 a0 17 = 3) (H : Heap) (locs : List Loc) (ls : Array Slot) (hw : Wd D A s.heap L0 fw220 H locs) (hl : lv_has ls 3 [(0, .ref a0), (1, .int (iI y1_13))]), W p l e ({ frames := 1, cells := 0, slots := 0, locals := 21 } : Room) s m ([.ref a0] : List Value).toArray below meth c H locs (0 + 0 + 0 + 0 + 0 + 0 + 0) (0 + 0 + 0 + 0 + 0 + 0 + 0) (MQ below (Qv D (tq cy) L0 f0 s.heap.size (fun (L1 : List Nat) (f1 : Nat → va_E) => L0 = L1 ∧ MS cy L0 f1 a0 ad ∧ Kp a0 ad [] [15, 16, 17, 18, 19] f0 f1 ∧ (0 ≤ fI f1 a0 15 ∧ fI f1 a0 15 ≤ 168 ∧ 0 ≤ fI f1 a0 16 ∧ fI f1 a0 16 ≤ 168 ∧ (fI f0 a0 20 ≤ 0 → fI f1 a0 17 = 1 → fI f0 a0 16 < fI f1 a0 16) ∧ (0 < fI f0 a0 20 → fI f1 a0 17 = fI f0 a0 17)))) ([.ref a0] : List Value).toArray s 0 0 A) (F0 m 220 ls []) := by
                        intro L fw220 hs hE k0 k1 k2 k3 k4 k5 k6 H locs ls hw hl
                        refine lv_aload_n hx hb dX10_next_220 rfl (lv_at hl 0 rfl) ?_
                        refine lv_dup hx hb dX10_next_221 rfl ?_
                        refine q_geti (ci := 8) (C := RX10) (T := TX10) (N := 26) hx hb hts (fun w h => List.mem_cons_of_mem _ (mfX100 w h)) hown hK hw hs.1 hs.2.1 rfl 16 (by decide) (hts _ (List.mem_cons_of_mem _ (mr19 _ (List.mem_of_getElem? (i := 3) rfl)))) (fun _ h => h) rfl dX10_next_222 (fun x_23 lx_23 ux_23 ex_23 => ?_)
                        refine q_iconst hx hb dX10_next_225 ?_
                        first | refine q_iadd hx hb dX10_next_226 ⟨by omega, by omega⟩ (fun x_24 lx_24 ux_24 ex_24 => ?_) | refine q_iaddw hx hb dX10_next_226 (fun x_24 lx_24 ux_24 ex_24 => ?_)
                        refine q_puti (ci := 8) (C := RX10) (T := TX10) (N := 26) hx hb hts (fun w h => List.mem_cons_of_mem _ (mfX100 w h)) hown hK hw hs.1 hs.2.1 rfl 16 (by decide) (hts _ (List.mem_cons_of_mem _ (mr19 _ (List.mem_of_getElem? (i := 3) rfl)))) (fun _ h => h) tyX10 tyX10_ok nmX10 rfl (ty := .int) (by decide +kernel) rfl rfl dX10_next_227 (fun H locs hw => ?_)
                        obtain ⟨f_25, ef_25⟩ : ∃ g : Nat → va_E, g = pU fw220 a0 16 (.int (iI x_24)) := ⟨_, rfl⟩
                        have v16_f_25 : fI f_25 a0 16 = x_24 := by rw [ef_25]; exact fI_pU_self hs.2.1 rfl ⟨lx_24, ux_24⟩
                        have t14_f_25 : fI f_25 a0 14 = fI fw220 a0 14 := by rw [ef_25]; exact fI_pU (Or.inr (by decide))
                        have t15_f_25 : fI f_25 a0 15 = fI fw220 a0 15 := by rw [ef_25]; exact fI_pU (Or.inr (by decide))
                        have t17_f_25 : fI f_25 a0 17 = fI fw220 a0 17 := by rw [ef_25]; exact fI_pU (Or.inr (by decide))
                        have hE := hE.trans (show Kp a0 ad [] [15, 16, 17, 18, 19] fw220 f_25 by rw [ef_25]; exact Kp_pU hs (by decide))
                        have hs : MS cy L0 f_25 a0 ad := by rw [ef_25]; exact MS_pU hs rfl
                        rw [← ef_25] at hw
                        refine lv_goto (tgt := 173) hx hb dX10_next_230 (by decide) ?_
                        exact ih173 L0 f_25 hs hE (by omega) (by omega) (by omega) (by omega) (by omega) (by omega) (by omega) _ _ _ hw (lv_sub hl [0, 1] rfl)
                      refine q_icmp_ge (tgt := 220) hx hb dX10_next_194 (by decide) ⟨lx_22, ux_22⟩ ⟨by decide, by decide⟩ (fun c194 => ?_) (fun c194 => ?_)
                      · exact J220 L0 fw173 hs hE (by omega) (by omega) (by omega) (by omega) (by omega) (by omega) (by omega) _ _ _ hw (lv_sub hl [0, 1] rfl)
                      · refine lv_aload_n hx hb dX10_next_197 rfl (lv_at hl 0 rfl) ?_
                        refine q_bipush hx hb dX10_next_198 rfl ?_
                        refine lv_aload_n hx hb dX10_next_200 rfl (lv_at hl 0 rfl) ?_
                        refine q_geti (ci := 8) (C := RX10) (T := TX10) (N := 26) hx hb hts (fun w h => List.mem_cons_of_mem _ (mfX100 w h)) hown hK hw hs.1 hs.2.1 rfl 19 (by decide) (hts _ (List.mem_cons_of_mem _ (mr19 _ (List.mem_of_getElem? (i := 11) rfl)))) (fun _ h => h) rfl dX10_next_201 (fun x_26 lx_26 ux_26 ex_26 => ?_)
                        first | refine q_imul hx hb dX10_next_204 ⟨by omega, by omega⟩ (fun x_27 lx_27 ux_27 ex_27 => ?_) | refine q_imulw hx hb dX10_next_204 (fun x_27 lx_27 ux_27 ex_27 => ?_)
                        refine lv_aload_n hx hb dX10_next_205 rfl (lv_at hl 0 rfl) ?_
                        refine lv_aload_n hx hb dX10_next_206 rfl (lv_at hl 0 rfl) ?_
                        refine q_geti (ci := 8) (C := RX10) (T := TX10) (N := 26) hx hb hts (fun w h => List.mem_cons_of_mem _ (mfX100 w h)) hown hK hw hs.1 hs.2.1 rfl 16 (by decide) (hts _ (List.mem_cons_of_mem _ (mr19 _ (List.mem_of_getElem? (i := 3) rfl)))) (fun _ h => h) rfl dX10_next_207 (fun x_28 lx_28 ux_28 ex_28 => ?_)
                        refine q_call_i hA hK hw (va_runV (As := [.int (iI x_28)]) (rest := [.int (iI x_27), .ref a0]) ⟨hx, hb, hml, hown, hts⟩ (c_X10_byteAt zo l D cy L0 fw173 a0 x_28 lx_28 ux_28 ad hs (by omega) (by omega) _) (cwV 1 hts (gT (inV (mr19 _ (List.mem_of_getElem? (i := 13) rfl)) (mr19 _ (List.mem_of_getElem? (i := 14) rfl)) (mr19 _ (List.mem_of_getElem? (i := 15) rfl)) (mr1 _ (List.mem_of_getElem? (i := 5) rfl)) (mr19 _ (List.mem_of_getElem? (i := 16) rfl)))) rfl rfl rfl (by decide +kernel) ⟨Nat.le_of_ble_eq_true rfl, Nat.le_of_ble_eq_true rfl⟩) (Wd.preV zo hA hZ hw hK hs.1 hs.2.1 rfl) rfl rfl hl.1 rfl (lv_room (Nat.le_of_ble_eq_true rfl)) dX10_next_210 ⟨Nat.le_of_ble_eq_true rfl, Nat.le_of_ble_eq_true rfl⟩) (fun x_29 L1 f1 H locs lx_29 ux_29 ex_29 hw => ?_)
                        obtain ⟨rfl, rfl, ex_29⟩ := ex_29
                        first | refine q_iadd hx hb dX10_next_213 ⟨by omega, by omega⟩ (fun x_30 lx_30 ux_30 ex_30 => ?_) | refine q_iaddw hx hb dX10_next_213 (fun x_30 lx_30 ux_30 ex_30 => ?_)
                        refine q_bipush hx hb dX10_next_214 rfl ?_
                        first | refine q_isub hx hb dX10_next_216 ⟨by omega, by omega⟩ (fun x_31 lx_31 ux_31 ex_31 => ?_) | refine q_isubw hx hb dX10_next_216 (fun x_31 lx_31 ux_31 ex_31 => ?_)
                        refine q_puti (ci := 8) (C := RX10) (T := TX10) (N := 26) hx hb hts (fun w h => List.mem_cons_of_mem _ (mfX100 w h)) hown hK hw hs.1 hs.2.1 rfl 19 (by decide) (hts _ (List.mem_cons_of_mem _ (mr19 _ (List.mem_of_getElem? (i := 11) rfl)))) (fun _ h => h) tyX10 tyX10_ok nmX10 rfl (ty := .int) (by decide +kernel) rfl rfl dX10_next_217 (fun H locs hw => ?_)
                        obtain ⟨f_32, ef_32⟩ : ∃ g : Nat → va_E, g = pU fw173 a0 19 (.int (iI x_31)) := ⟨_, rfl⟩
                        have v19_f_32 : fI f_32 a0 19 = x_31 := by rw [ef_32]; exact fI_pU_self hs.2.1 rfl ⟨lx_31, ux_31⟩
                        have t14_f_32 : fI f_32 a0 14 = fI fw173 a0 14 := by rw [ef_32]; exact fI_pU (Or.inr (by decide))
                        have t15_f_32 : fI f_32 a0 15 = fI fw173 a0 15 := by rw [ef_32]; exact fI_pU (Or.inr (by decide))
                        have t16_f_32 : fI f_32 a0 16 = fI fw173 a0 16 := by rw [ef_32]; exact fI_pU (Or.inr (by decide))
                        have t17_f_32 : fI f_32 a0 17 = fI fw173 a0 17 := by rw [ef_32]; exact fI_pU (Or.inr (by decide))
                        have hE := hE.trans (show Kp a0 ad [] [15, 16, 17, 18, 19] fw173 f_32 by rw [ef_32]; exact Kp_pU hs (by decide))
                        have hs : MS cy L0 f_32 a0 ad := by rw [ef_32]; exact MS_pU hs rfl
                        rw [← ef_32] at hw
                        exact J220 L0 f_32 hs hE (by omega) (by omega) (by omega) (by omega) (by omega) (by omega) (by omega) _ _ _ hw (lv_sub hl [0, 1] rfl)
                exact J173 (((168 - fI f_13 a0 16).toNat) + 1) L0 f_13 hs hE (by omega) (by omega) (by omega) (by omega) (by omega) (by omega) (by omega) _ _ _ hw (lv_sub hl [1, 2] rfl)
            · refine lv_aload_n hx hb dX10_next_87 rfl (lv_at hl 1 rfl) ?_
              refine q_iconst hx hb dX10_next_88 ?_
              refine q_puti (ci := 8) (C := RX10) (T := TX10) (N := 26) hx hb hts (fun w h => List.mem_cons_of_mem _ (mfX100 w h)) hown hK hw hs.1 hs.2.1 rfl 17 (by decide) (hts _ (List.mem_cons_of_mem _ (mr19 _ (List.mem_of_getElem? (i := 9) rfl)))) (fun _ h => h) tyX10 tyX10_ok nmX10 rfl (ty := .int) (by decide +kernel) rfl rfl dX10_next_89 (fun H locs hw => ?_)
              obtain ⟨f_33, ef_33⟩ : ∃ g : Nat → va_E, g = pU f_10 a0 17 (.int (iI 1)) := ⟨_, rfl⟩
              have v17_f_33 : fI f_33 a0 17 = 1 := by rw [ef_33]; exact fI_pU_self hs.2.1 rfl ⟨by decide, by decide⟩
              have t14_f_33 : fI f_33 a0 14 = fI f_10 a0 14 := by rw [ef_33]; exact fI_pU (Or.inr (by decide))
              have t15_f_33 : fI f_33 a0 15 = fI f_10 a0 15 := by rw [ef_33]; exact fI_pU (Or.inr (by decide))
              have t16_f_33 : fI f_33 a0 16 = fI f_10 a0 16 := by rw [ef_33]; exact fI_pU (Or.inr (by decide))
              have hE := hE.trans (show Kp a0 ad [] [15, 16, 17, 18, 19] f_10 f_33 by rw [ef_33]; exact Kp_pU hs (by decide))
              have hs : MS cy L0 f_33 a0 ad := by rw [ef_33]; exact MS_pU hs rfl
              rw [← ef_33] at hw
              refine lv_aload_n hx hb dX10_next_92 rfl (lv_at hl 1 rfl) ?_
              refine lv_iload_n hx hb dX10_next_93 rfl (lv_at hl 2 rfl) ?_
              refine q_puti (ci := 8) (C := RX10) (T := TX10) (N := 26) hx hb hts (fun w h => List.mem_cons_of_mem _ (mfX100 w h)) hown hK hw hs.1 hs.2.1 rfl 16 (by decide) (hts _ (List.mem_cons_of_mem _ (mr19 _ (List.mem_of_getElem? (i := 3) rfl)))) (fun _ h => h) tyX10 tyX10_ok nmX10 rfl (ty := .int) (by decide +kernel) rfl rfl dX10_next_94 (fun H locs hw => ?_)
              obtain ⟨f_34, ef_34⟩ : ∃ g : Nat → va_E, g = pU f_33 a0 16 (.int (iI y1_13)) := ⟨_, rfl⟩
              have v16_f_34 : fI f_34 a0 16 = y1_13 := by rw [ef_34]; exact fI_pU_self hs.2.1 rfl ⟨ly1_13, uy1_13⟩
              have t14_f_34 : fI f_34 a0 14 = fI f_33 a0 14 := by rw [ef_34]; exact fI_pU (Or.inr (by decide))
              have t15_f_34 : fI f_34 a0 15 = fI f_33 a0 15 := by rw [ef_34]; exact fI_pU (Or.inr (by decide))
              have t17_f_34 : fI f_34 a0 17 = fI f_33 a0 17 := by rw [ef_34]; exact fI_pU (Or.inr (by decide))
              have hE := hE.trans (show Kp a0 ad [] [15, 16, 17, 18, 19] f_33 f_34 by rw [ef_34]; exact Kp_pU hs (by decide))
              have hs : MS cy L0 f_34 a0 ad := by rw [ef_34]; exact MS_pU hs rfl
              rw [← ef_34] at hw
              have J97 : ∀ (n97 : Nat) (L : List Nat) (fw97 : Nat → va_E) (hs : MS cy L0 fw97 a0 ad) (hE : Kp a0 ad [] [15, 16, 17, 18, 19] f0 fw97) (i1 : 0 ≤ fI fw97 a0 16) (i2 : fI fw97 a0 16 ≤ 168) (i3 : 0 ≤ fI fw97 a0 15) (i4 : fI fw97 a0 15 ≤ 168) (i5 : fI fw97 a0 14 ≤ 168) (i6 : fI fw97 a0 17 = 1) (i7 : y1_13 ≤ fI fw97 a0 16) (hn97 : (168 - fI fw97 a0 16).toNat < n97) (H : Heap) (locs : List Loc) (ls : Array Slot) (hw : Wd D A s.heap L0 fw97 H locs) (hl : lv_has ls 3 [(0, .ref a0), (1, .int (iI y1_13))]), W p l e ({ frames := 1, cells := 0, slots := 0, locals := 21 } : Room) s m ([.ref a0] : List Value).toArray below meth c H locs (0 + 0 + 0 + 0) (0 + 0 + 0 + 0) (MQ below (Qv D (tq cy) L0 f0 s.heap.size (fun (L1 : List Nat) (f1 : Nat → va_E) => L0 = L1 ∧ MS cy L0 f1 a0 ad ∧ Kp a0 ad [] [15, 16, 17, 18, 19] f0 f1 ∧ (0 ≤ fI f1 a0 15 ∧ fI f1 a0 15 ≤ 168 ∧ 0 ≤ fI f1 a0 16 ∧ fI f1 a0 16 ≤ 168 ∧ (fI f0 a0 20 ≤ 0 → fI f1 a0 17 = 1 → fI f0 a0 16 < fI f1 a0 16) ∧ (0 < fI f0 a0 20 → fI f1 a0 17 = fI f0 a0 17)))) ([.ref a0] : List Value).toArray s 0 0 A) (F0 m 97 ls []) := by
                intro n97
                induction n97 with
                | zero => intro L fw97 hs hE i1 i2 i3 i4 i5 i6 i7 hn97; exact absurd hn97 (Nat.not_lt_zero _)
                | succ n97 ih97 =>
                  intro L fw97 hs hE i1 i2 i3 i4 i5 i6 i7 hn97 H locs ls hw hl
                  refine lv_aload_n hx hb dX10_next_97 rfl (lv_at hl 0 rfl) ?_
                  refine lv_aload_n hx hb dX10_next_98 rfl (lv_at hl 0 rfl) ?_
                  refine q_geti (ci := 8) (C := RX10) (T := TX10) (N := 26) hx hb hts (fun w h => List.mem_cons_of_mem _ (mfX100 w h)) hown hK hw hs.1 hs.2.1 rfl 16 (by decide) (hts _ (List.mem_cons_of_mem _ (mr19 _ (List.mem_of_getElem? (i := 3) rfl)))) (fun _ h => h) rfl dX10_next_99 (fun x_35 lx_35 ux_35 ex_35 => ?_)
                  refine q_call_i hA hK hw (va_runV (As := [.int (iI x_35)]) (rest := []) ⟨hx, hb, hml, hown, hts⟩ (c_X10_byteAt zo l D cy L0 fw97 a0 x_35 lx_35 ux_35 ad hs (by omega) (by omega) _) (cwV 1 hts (gT (inV (mr19 _ (List.mem_of_getElem? (i := 13) rfl)) (mr19 _ (List.mem_of_getElem? (i := 14) rfl)) (mr19 _ (List.mem_of_getElem? (i := 15) rfl)) (mr1 _ (List.mem_of_getElem? (i := 5) rfl)) (mr19 _ (List.mem_of_getElem? (i := 16) rfl)))) rfl rfl rfl (by decide +kernel) ⟨Nat.le_of_ble_eq_true rfl, Nat.le_of_ble_eq_true rfl⟩) (Wd.preV zo hA hZ hw hK hs.1 hs.2.1 rfl) rfl rfl hl.1 rfl (lv_room (Nat.le_of_ble_eq_true rfl)) dX10_next_102 ⟨Nat.le_of_ble_eq_true rfl, Nat.le_of_ble_eq_true rfl⟩) (fun x_36 L1 f1 H locs lx_36 ux_36 ex_36 hw => ?_)
                  obtain ⟨rfl, rfl, ex_36⟩ := ex_36
                  have r8_x_36 : x_35 = y1_13 → aI fw97 (ad 8) x_35 = aI f0 (ad 8) y1_13 := fun hk => by rw [hk]; exact hE.1 8 rfl (by decide) _
                  have h14_x_36 := hE.2 14 (by decide)
                  refine q_call_i hA hK hw (va_runS (As := [.int (iI x_36)]) (rest := []) ⟨hx, hb, hml, hown, hts⟩ (c_X10_isSmall zo l D cy L0 fw97 x_36 lx_36 ux_36 _) (va_cwS 1 hts (gT (inS (mr19 _ (List.mem_of_getElem? (i := 17) rfl)) (mr19 _ (List.mem_of_getElem? (i := 18) rfl)) (mr1 _ (List.mem_of_getElem? (i := 5) rfl)) (mr19 _ (List.mem_of_getElem? (i := 19) rfl)))) rfl rfl rfl (by decide +kernel) ⟨Nat.le_of_ble_eq_true rfl, Nat.le_of_ble_eq_true rfl⟩) (Wd.preS zo hA hZ hw hK) rfl rfl hl.1 rfl (lv_room (Nat.le_of_ble_eq_true rfl)) dX10_next_105 ⟨Nat.le_of_ble_eq_true rfl, Nat.le_of_ble_eq_true rfl⟩) (fun x_37 L1 f1 H locs lx_37 ux_37 ex_37 hw => ?_)
                  obtain ⟨rfl, rfl, ex_37⟩ := ex_37
                  refine q_if_eq (tgt := 252) hx hb dX10_next_108 (by decide) ⟨lx_37, ux_37⟩ (fun c108 => ?_) (fun c108 => ?_)
                  · exact q_ret_v hx hb hr hlocks hK hAe hw (Nat.le_of_ble_eq_true rfl) (Nat.le_of_ble_eq_true rfl) dX10_next_252 (by exact ⟨rfl, hs, hE, by first | trivial | omega⟩)
                  · refine lv_aload_n hx hb dX10_next_111 rfl (lv_at hl 0 rfl) ?_
                    refine lv_aload_n hx hb dX10_next_112 rfl (lv_at hl 0 rfl) ?_
                    refine q_geti (ci := 8) (C := RX10) (T := TX10) (N := 26) hx hb hts (fun w h => List.mem_cons_of_mem _ (mfX100 w h)) hown hK hw hs.1 hs.2.1 rfl 16 (by decide) (hts _ (List.mem_cons_of_mem _ (mr19 _ (List.mem_of_getElem? (i := 3) rfl)))) (fun _ h => h) rfl dX10_next_113 (fun x_38 lx_38 ux_38 ex_38 => ?_)
                    refine lv_iload_n hx hb dX10_next_116 rfl (lv_at hl 1 rfl) ?_
                    first | refine q_isub hx hb dX10_next_117 ⟨by omega, by omega⟩ (fun x_39 lx_39 ux_39 ex_39 => ?_) | refine q_isubw hx hb dX10_next_117 (fun x_39 lx_39 ux_39 ex_39 => ?_)
                    refine q_bipush hx hb dX10_next_118 rfl ?_
                    have J145 : ∀ (w0_145 : Int) (lw0_145 : -9223372036854775808 ≤ w0_145) (uw0_145 : w0_145 ≤ 9223372036854775807) (H : Heap) (locs : List Loc) (ls : Array Slot) (hw : Wd D A s.heap L0 fw97 H locs) (hl : lv_has ls 3 [(0, .ref a0), (1, .int (iI y1_13))]), W p l e ({ frames := 1, cells := 0, slots := 0, locals := 21 } : Room) s m ([.ref a0] : List Value).toArray below meth c H locs (0 + 0 + 0 + 0 + 0 + 0) (0 + 0 + 0 + 0 + 0 + 0) (MQ below (Qv D (tq cy) L0 f0 s.heap.size (fun (L1 : List Nat) (f1 : Nat → va_E) => L0 = L1 ∧ MS cy L0 f1 a0 ad ∧ Kp a0 ad [] [15, 16, 17, 18, 19] f0 f1 ∧ (0 ≤ fI f1 a0 15 ∧ fI f1 a0 15 ≤ 168 ∧ 0 ≤ fI f1 a0 16 ∧ fI f1 a0 16 ≤ 168 ∧ (fI f0 a0 20 ≤ 0 → fI f1 a0 17 = 1 → fI f0 a0 16 < fI f1 a0 16) ∧ (0 < fI f0 a0 20 → fI f1 a0 17 = fI f0 a0 17)))) ([.ref a0] : List Value).toArray s 0 0 A) (F0 m 145 ls [.long (lJ w0_145), .ref a0]) := by
                      intro w0_145 lw0_145 uw0_145 H locs ls hw hl
                      refine q_putl (ci := 8) (C := RX10) (T := TX10) (N := 26) hx hb hts (fun w h => List.mem_cons_of_mem _ (mfX100 w h)) hown hK hw hs.1 hs.2.1 rfl 18 (by decide) (hts _ (List.mem_cons_of_mem _ (mr19 _ (List.mem_of_getElem? (i := 10) rfl)))) (fun _ h => h) tyX10 tyX10_ok nmX10 rfl (ty := .long) (by decide +kernel) rfl rfl dX10_next_145 (fun H locs hw => ?_)
                      obtain ⟨f_40, ef_40⟩ : ∃ g : Nat → va_E, g = pU fw97 a0 18 (.long (lJ w0_145)) := ⟨_, rfl⟩
                      have t14_f_40 : fI f_40 a0 14 = fI fw97 a0 14 := by rw [ef_40]; exact fI_pU (Or.inr (by decide))
                      have t15_f_40 : fI f_40 a0 15 = fI fw97 a0 15 := by rw [ef_40]; exact fI_pU (Or.inr (by decide))
                      have t16_f_40 : fI f_40 a0 16 = fI fw97 a0 16 := by rw [ef_40]; exact fI_pU (Or.inr (by decide))
                      have t17_f_40 : fI f_40 a0 17 = fI fw97 a0 17 := by rw [ef_40]; exact fI_pU (Or.inr (by decide))
                      have hE := hE.trans (show Kp a0 ad [] [15, 16, 17, 18, 19] fw97 f_40 by rw [ef_40]; exact Kp_pU hs (by decide))
                      have hs : MS cy L0 f_40 a0 ad := by rw [ef_40]; exact MS_pL hs rfl
                      rw [← ef_40] at hw
                      refine lv_aload_n hx hb dX10_next_148 rfl (lv_at hl 0 rfl) ?_
                      refine lv_dup hx hb dX10_next_149 rfl ?_
                      refine q_geti (ci := 8) (C := RX10) (T := TX10) (N := 26) hx hb hts (fun w h => List.mem_cons_of_mem _ (mfX100 w h)) hown hK hw hs.1 hs.2.1 rfl 16 (by decide) (hts _ (List.mem_cons_of_mem _ (mr19 _ (List.mem_of_getElem? (i := 3) rfl)))) (fun _ h => h) rfl dX10_next_150 (fun x_41 lx_41 ux_41 ex_41 => ?_)
                      refine q_iconst hx hb dX10_next_153 ?_
                      first | refine q_iadd hx hb dX10_next_154 ⟨by omega, by omega⟩ (fun x_42 lx_42 ux_42 ex_42 => ?_) | refine q_iaddw hx hb dX10_next_154 (fun x_42 lx_42 ux_42 ex_42 => ?_)
                      refine q_puti (ci := 8) (C := RX10) (T := TX10) (N := 26) hx hb hts (fun w h => List.mem_cons_of_mem _ (mfX100 w h)) hown hK hw hs.1 hs.2.1 rfl 16 (by decide) (hts _ (List.mem_cons_of_mem _ (mr19 _ (List.mem_of_getElem? (i := 3) rfl)))) (fun _ h => h) tyX10 tyX10_ok nmX10 rfl (ty := .int) (by decide +kernel) rfl rfl dX10_next_155 (fun H locs hw => ?_)
                      obtain ⟨f_43, ef_43⟩ : ∃ g : Nat → va_E, g = pU f_40 a0 16 (.int (iI x_42)) := ⟨_, rfl⟩
                      have v16_f_43 : fI f_43 a0 16 = x_42 := by rw [ef_43]; exact fI_pU_self hs.2.1 rfl ⟨lx_42, ux_42⟩
                      have t14_f_43 : fI f_43 a0 14 = fI f_40 a0 14 := by rw [ef_43]; exact fI_pU (Or.inr (by decide))
                      have t15_f_43 : fI f_43 a0 15 = fI f_40 a0 15 := by rw [ef_43]; exact fI_pU (Or.inr (by decide))
                      have t17_f_43 : fI f_43 a0 17 = fI f_40 a0 17 := by rw [ef_43]; exact fI_pU (Or.inr (by decide))
                      have hE := hE.trans (show Kp a0 ad [] [15, 16, 17, 18, 19] f_40 f_43 by rw [ef_43]; exact Kp_pU hs (by decide))
                      have hs : MS cy L0 f_43 a0 ad := by rw [ef_43]; exact MS_pU hs rfl
                      rw [← ef_43] at hw
                      refine lv_goto (tgt := 97) hx hb dX10_next_158 (by decide) ?_
                      exact ih97 L0 f_43 hs hE (by omega) (by omega) (by omega) (by omega) (by omega) (by omega) (by omega) (by omega) _ _ _ hw (lv_sub hl [0, 1] rfl)
                    refine q_icmp_ge (tgt := 144) hx hb dX10_next_120 (by decide) ⟨lx_39, ux_39⟩ ⟨by decide, by decide⟩ (fun c120 => ?_) (fun c120 => ?_)
                    · refine q_lconst0 hx hb dX10_next_144 ?_
                      exact J145 0 (by decide) (by decide) _ _ _ hw (lv_sub hl [0, 1] rfl)
                    · refine q_ldc2 (n := 256) hx hb hown (hts _ (List.mem_cons_of_mem _ (mr19 _ (List.mem_of_getElem? (i := 12) rfl)))) rfl dX10_next_123 ?_
                      refine lv_aload_n hx hb dX10_next_126 rfl (lv_at hl 0 rfl) ?_
                      refine q_getl (ci := 8) (C := RX10) (T := TX10) (N := 26) hx hb hts (fun w h => List.mem_cons_of_mem _ (mfX100 w h)) hown hK hw hs.1 hs.2.1 rfl 18 (by decide) (hts _ (List.mem_cons_of_mem _ (mr19 _ (List.mem_of_getElem? (i := 10) rfl)))) (fun _ h => h) rfl dX10_next_127 (fun j_44 lj_44 uj_44 ej_44 => ?_)
                      first | refine q_lmul hx hb dX10_next_130 ⟨by omega, by omega⟩ (fun j_45 lj_45 uj_45 ej_45 => ?_) | refine q_lmulw hx hb dX10_next_130 (fun j_45 lj_45 uj_45 ej_45 => ?_)
                      refine lv_aload_n hx hb dX10_next_131 rfl (lv_at hl 0 rfl) ?_
                      refine lv_aload_n hx hb dX10_next_132 rfl (lv_at hl 0 rfl) ?_
                      refine q_geti (ci := 8) (C := RX10) (T := TX10) (N := 26) hx hb hts (fun w h => List.mem_cons_of_mem _ (mfX100 w h)) hown hK hw hs.1 hs.2.1 rfl 16 (by decide) (hts _ (List.mem_cons_of_mem _ (mr19 _ (List.mem_of_getElem? (i := 3) rfl)))) (fun _ h => h) rfl dX10_next_133 (fun x_46 lx_46 ux_46 ex_46 => ?_)
                      refine q_call_i hA hK hw (va_runV (As := [.int (iI x_46)]) (rest := [.long (lJ j_45), .ref a0]) ⟨hx, hb, hml, hown, hts⟩ (c_X10_byteAt zo l D cy L0 fw97 a0 x_46 lx_46 ux_46 ad hs (by omega) (by omega) _) (cwV 1 hts (gT (inV (mr19 _ (List.mem_of_getElem? (i := 13) rfl)) (mr19 _ (List.mem_of_getElem? (i := 14) rfl)) (mr19 _ (List.mem_of_getElem? (i := 15) rfl)) (mr1 _ (List.mem_of_getElem? (i := 5) rfl)) (mr19 _ (List.mem_of_getElem? (i := 16) rfl)))) rfl rfl rfl (by decide +kernel) ⟨Nat.le_of_ble_eq_true rfl, Nat.le_of_ble_eq_true rfl⟩) (Wd.preV zo hA hZ hw hK hs.1 hs.2.1 rfl) rfl rfl hl.1 rfl (lv_room (Nat.le_of_ble_eq_true rfl)) dX10_next_136 ⟨Nat.le_of_ble_eq_true rfl, Nat.le_of_ble_eq_true rfl⟩) (fun x_47 L1 f1 H locs lx_47 ux_47 ex_47 hw => ?_)
                      obtain ⟨rfl, rfl, ex_47⟩ := ex_47
                      refine q_i2l hx hb dX10_next_139 ⟨lx_47, ux_47⟩ ?_
                      obtain ⟨j_48, lj_48, uj_48, ej_48⟩ : ∃ z : Int, -9223372036854775808 ≤ z ∧ z ≤ 9223372036854775807 ∧ x_47 = z := ⟨x_47, by omega, by omega, rfl⟩
                      rw [show (lJ x_47) = lJ j_48 from by rw [ej_48]]
                      first | refine q_ladd hx hb dX10_next_140 ⟨by omega, by omega⟩ (fun j_49 lj_49 uj_49 ej_49 => ?_) | refine q_laddw hx hb dX10_next_140 (fun j_49 lj_49 uj_49 ej_49 => ?_)
                      refine lv_goto (tgt := 145) hx hb dX10_next_141 (by decide) ?_
                      exact J145 j_49 lj_49 uj_49 _ _ _ hw (lv_sub hl [0, 1] rfl)
              exact J97 (((168 - fI f_34 a0 16).toNat) + 1) L0 f_34 hs hE (by omega) (by omega) (by omega) (by omega) (by omega) (by omega) (by omega) (by omega) _ _ _ hw (lv_sub hl [1, 2] rfl)
          · refine lv_aload_n hx hb dX10_next_67 rfl (lv_at hl 1 rfl) ?_
            refine q_iconst hx hb dX10_next_68 ?_
            refine q_puti (ci := 8) (C := RX10) (T := TX10) (N := 26) hx hb hts (fun w h => List.mem_cons_of_mem _ (mfX100 w h)) hown hK hw hs.1 hs.2.1 rfl 17 (by decide) (hts _ (List.mem_cons_of_mem _ (mr19 _ (List.mem_of_getElem? (i := 9) rfl)))) (fun _ h => h) tyX10 tyX10_ok nmX10 rfl (ty := .int) (by decide +kernel) rfl rfl dX10_next_69 (fun H locs hw => ?_)
            obtain ⟨f_50, ef_50⟩ : ∃ g : Nat → va_E, g = pU f_10 a0 17 (.int (iI 0)) := ⟨_, rfl⟩
            have v17_f_50 : fI f_50 a0 17 = 0 := by rw [ef_50]; exact fI_pU_self hs.2.1 rfl ⟨by decide, by decide⟩
            have t14_f_50 : fI f_50 a0 14 = fI f_10 a0 14 := by rw [ef_50]; exact fI_pU (Or.inr (by decide))
            have t15_f_50 : fI f_50 a0 15 = fI f_10 a0 15 := by rw [ef_50]; exact fI_pU (Or.inr (by decide))
            have t16_f_50 : fI f_50 a0 16 = fI f_10 a0 16 := by rw [ef_50]; exact fI_pU (Or.inr (by decide))
            have hE := hE.trans (show Kp a0 ad [] [15, 16, 17, 18, 19] f_10 f_50 by rw [ef_50]; exact Kp_pU hs (by decide))
            have hs : MS cy L0 f_50 a0 ad := by rw [ef_50]; exact MS_pU hs rfl
            rw [← ef_50] at hw
            refine lv_aload_n hx hb dX10_next_72 rfl (lv_at hl 1 rfl) ?_
            refine lv_iload_n hx hb dX10_next_73 rfl (lv_at hl 2 rfl) ?_
            refine q_puti (ci := 8) (C := RX10) (T := TX10) (N := 26) hx hb hts (fun w h => List.mem_cons_of_mem _ (mfX100 w h)) hown hK hw hs.1 hs.2.1 rfl 16 (by decide) (hts _ (List.mem_cons_of_mem _ (mr19 _ (List.mem_of_getElem? (i := 3) rfl)))) (fun _ h => h) tyX10 tyX10_ok nmX10 rfl (ty := .int) (by decide +kernel) rfl rfl dX10_next_74 (fun H locs hw => ?_)
            obtain ⟨f_51, ef_51⟩ : ∃ g : Nat → va_E, g = pU f_50 a0 16 (.int (iI y1_13)) := ⟨_, rfl⟩
            have v16_f_51 : fI f_51 a0 16 = y1_13 := by rw [ef_51]; exact fI_pU_self hs.2.1 rfl ⟨ly1_13, uy1_13⟩
            have t14_f_51 : fI f_51 a0 14 = fI f_50 a0 14 := by rw [ef_51]; exact fI_pU (Or.inr (by decide))
            have t15_f_51 : fI f_51 a0 15 = fI f_50 a0 15 := by rw [ef_51]; exact fI_pU (Or.inr (by decide))
            have t17_f_51 : fI f_51 a0 17 = fI f_50 a0 17 := by rw [ef_51]; exact fI_pU (Or.inr (by decide))
            have hE := hE.trans (show Kp a0 ad [] [15, 16, 17, 18, 19] f_50 f_51 by rw [ef_51]; exact Kp_pU hs (by decide))
            have hs : MS cy L0 f_51 a0 ad := by rw [ef_51]; exact MS_pU hs rfl
            rw [← ef_51] at hw
            refine lv_goto (tgt := 252) hx hb dX10_next_77 (by decide) ?_
            exact q_ret_v hx hb hr hlocks hK hAe hw (Nat.le_of_ble_eq_true rfl) (Nat.le_of_ble_eq_true rfl) dX10_next_252 (by exact ⟨rfl, hs, hE, by first | trivial | omega⟩)
        · obtain ⟨x_52, lx_52, ux_52, hx_52, ex_52⟩ := q_inc y1_13 (1)
          try (replace ex_52 : x_52 = y1_13 + (1) := by omega)
          refine lv_iinc (v := iI x_52) (lv' := [(1, .int (iI x_52)), (0, .ref a0)]) hx hb dX10_next_23 hl (k := 1) rfl hx_52 (by decide) rfl (fun ls hl => ?_)
          refine lv_goto (tgt := 13) hx hb dX10_next_26 (by decide) ?_
          exact ih13 x_52 lx_52 ux_52 (by omega) (by omega) (by omega) (by omega) _ _ _ hw (lv_sub hl [1, 0] rfl)
    exact J13 ((((2147483647 : Int) - x_2).toNat) + 1) x_2 lx_2 ux_2 (by omega) (by omega) (by omega) (by omega) _ _ _ hw (lv_sub hl [1, 0] rfl)
  · exact q_ret_v hx hb hr hlocks hK hAe hw (Nat.le_of_ble_eq_true rfl) (Nat.le_of_ble_eq_true rfl) dX10_next_7 (by exact ⟨rfl, hs, hE, by first | trivial | omega⟩)
