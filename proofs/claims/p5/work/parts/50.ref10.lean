set_option maxHeartbeats 4000000 in
set_option maxRecDepth 100000 in
theorem c_X10_weeksTold {Z : Zt} (zo : Zok Z) (l : Launch) (D : va_G) (cy : Cy) (L0 : List Nat) (f0 : Nat → va_E) (a0 : Nat) (ad : Nat → Nat) (hs : MS cy L0 f0 a0 ad) (p1 : 0 ≤ fI f0 a0 15) (p2 : fI f0 a0 15 ≤ 168) (p3 : 0 ≤ fI f0 a0 16) (p4 : fI f0 a0 16 ≤ 168) (p5 : fI f0 a0 14 ≤ 168) (p6 : 0 ≤ fI f0 a0 20) : Cv Z l yX10_weeksTold (Cond.code yX10_weeksTold cX10_weeksTold 3 none :: TB) ({ frames := 7, cells := 0, slots := 0, locals := 149 } : Room) 0 0 D (tq cy) [.ref a0] L0 f0 (fun (L1 : List Nat) (f1 : Nat → va_E) => L0 = L1 ∧ MS cy L0 f1 a0 ad ∧ Kp a0 ad [21] [15, 16, 17, 18, 19, 20] f0 f1 ∧ (0 ≤ fI f1 a0 15 ∧ fI f1 a0 15 ≤ 168 ∧ 0 ≤ fI f1 a0 16 ∧ fI f1 a0 16 ≤ 168 ∧ 0 ≤ fI f1 a0 20 ∧ (fI f1 a0 20 = 0 → fI f0 a0 20 = 0) ∧ aI f1 (ad 21) 3 = 2 ∧ aI f1 (ad 21) 1 = aI f0 (ad 21) 1 ∧ aI f1 (ad 21) 2 = aI f0 (ad 21) 2 ∧ aI f1 (ad 21) 4 = aI f0 (ad 21) 4)) := by
  refine Cv.enter (cc := cX10_weeksTold) (n := 3) rfl (plainFor_of_name (by decide)) (Nat.le_of_ble_eq_true rfl) ?_
  intro p e s m below meth c ls A hx hb hr hts hown hlocks hnm hml hK hA hAe hw hZ hl
  have hown : s.vm.findClass RX10 = some m.cls := hown
  have hl : lv_has ls 3 [(0, .ref a0)] := hl
  have hN : ZN s := (zo.2.2.2.2 _ _ _ hZ).2
  have hE : Kp a0 ad [21] [15, 16, 17, 18, 19, 20] f0 f0 := Kp.refl _ _ _ _ _
  refine lv_aload_n hx hb dX10_weeksTold_0 rfl (lv_at hl 0 rfl) ?_
  refine q_getr (ci := 8) (C := RX10) (T := TX10) (N := 26) hx hb hts (fun w h => List.mem_cons_of_mem _ (mfX100 w h)) hown hK hw hs.1 hs.2.1 rfl 21 (by decide) (hts _ (List.mem_cons_of_mem _ (mr3 _ (List.mem_of_getElem? (i := 22) rfl)))) (fun _ h => h) rfl (hs.2.2.1 21 rfl).1 dX10_weeksTold_1 ?_
  refine q_iconst hx hb dX10_weeksTold_4 ?_
  refine q_iconst hx hb dX10_weeksTold_5 ?_
  refine q_iast hx hb hK hw (hs.2.2.1 21 rfl).2.1 1 (hs.2.2.1 21 rfl).2.2 rfl ⟨by decide, by decide⟩ (by omega) (by show _ < ((44 : Nat) : Int); omega) dX10_weeksTold_6 (fun H locs hw => ?_)
  obtain ⟨f_1, ef_1⟩ : ∃ g : Nat → va_E, g = aU f0 (ad 21) 3 (iI 2) := ⟨_, rfl⟩
  have t14_f_1 : fI f_1 a0 14 = fI f0 a0 14 := by rw [ef_1]; exact hs.fI_aU rfl _ _
  have t15_f_1 : fI f_1 a0 15 = fI f0 a0 15 := by rw [ef_1]; exact hs.fI_aU rfl _ _
  have t16_f_1 : fI f_1 a0 16 = fI f0 a0 16 := by rw [ef_1]; exact hs.fI_aU rfl _ _
  have t17_f_1 : fI f_1 a0 17 = fI f0 a0 17 := by rw [ef_1]; exact hs.fI_aU rfl _ _
  have t20_f_1 : fI f_1 a0 20 = fI f0 a0 20 := by rw [ef_1]; exact hs.fI_aU rfl _ _
  have hE := hE.trans (show Kp a0 ad [21] [15, 16, 17, 18, 19, 20] f0 f_1 by rw [ef_1]; exact Kp_aU hs rfl (by decide))
  have hs_ := hs
  have hs : MS cy L0 f_1 a0 ad := by rw [ef_1]; exact MS_aU hs rfl
  rw [← ef_1] at hw
  have c21_1_f_1 : aI f_1 (ad 21) 1 = aI f0 (ad 21) 1 := by rw [ef_1]; exact hs_.aI_nj rfl (by decide) (by decide) (by decide)
  have c21_2_f_1 : aI f_1 (ad 21) 2 = aI f0 (ad 21) 2 := by rw [ef_1]; exact hs_.aI_nj rfl (by decide) (by decide) (by decide)
  have c21_3_f_1 : aI f_1 (ad 21) 3 = 2 := by rw [ef_1]; exact hs_.aI_self rfl ⟨by decide, by decide⟩
  have c21_4_f_1 : aI f_1 (ad 21) 4 = aI f0 (ad 21) 4 := by rw [ef_1]; exact hs_.aI_nj rfl (by decide) (by decide) (by decide)
  refine q_iconst hx hb dX10_weeksTold_7 ?_
  refine lv_istore_n (lv' := [(1, .int (iI 0)), (0, .ref a0)]) hx hb dX10_weeksTold_8 rfl hl (by decide) rfl (fun ls hl => ?_)
  refine lv_aload_n hx hb dX10_weeksTold_9 rfl (lv_at hl 1 rfl) ?_
  refine q_call_i hA hK hw (va_runV (As := []) (rest := []) ⟨hx, hb, hml, hown, hts⟩ (c_X10_weekdayHere zo l D cy L0 f_1 a0 ad hs _) (cwV 0 hts (gT (inV (mr21 _ (List.mem_of_getElem? (i := 4) rfl)) (mr21 _ (List.mem_of_getElem? (i := 5) rfl)) (mr21 _ (List.mem_of_getElem? (i := 6) rfl)) (mr1 _ (List.mem_of_getElem? (i := 5) rfl)) (mr21 _ (List.mem_of_getElem? (i := 7) rfl)))) rfl rfl rfl (by decide +kernel) ⟨Nat.le_of_ble_eq_true rfl, Nat.le_of_ble_eq_true rfl⟩) (Wd.preV zo hA hZ hw hK hs.1 hs.2.1 rfl) rfl rfl hl.1 rfl (lv_room (Nat.le_of_ble_eq_true rfl)) dX10_weeksTold_10 ⟨Nat.le_of_ble_eq_true rfl, Nat.le_of_ble_eq_true rfl⟩) (fun x_2 L1 f1 H locs lx_2 ux_2 ex_2 hw => ?_)
  obtain ⟨rfl, rfl, ex_2⟩ := ex_2
  refine q_if_ge (tgt := 21) hx hb dX10_weeksTold_13 (by decide) ⟨lx_2, ux_2⟩ (fun c13 => ?_) (fun c13 => ?_)
  · have J21 : ∀ (n21 : Nat) (y1_21 : Int) (ly1_21 : -2147483648 ≤ y1_21) (uy1_21 : y1_21 ≤ 2147483647) (L : List Nat) (fw21 : Nat → va_E) (hs : MS cy L0 fw21 a0 ad) (hE : Kp a0 ad [21] [15, 16, 17, 18, 19, 20] f0 fw21) (j1 : 0 ≤ fI fw21 a0 16) (j2 : fI fw21 a0 16 ≤ 168) (j3 : 0 ≤ fI fw21 a0 15) (j4 : fI fw21 a0 15 ≤ 168) (j5 : fI fw21 a0 14 ≤ 168) (k1 : 0 ≤ fI fw21 a0 20) (k2 : fI fw21 a0 20 = 0 → fI f0 a0 20 = 0) (z1 : aI fw21 (ad 21) 1 = aI f0 (ad 21) 1) (z2 : aI fw21 (ad 21) 2 = aI f0 (ad 21) 2) (z4 : aI fw21 (ad 21) 4 = aI f0 (ad 21) 4) (y3 : aI fw21 (ad 21) 3 = 2) (hn21 : tw (fI fw21 a0 20) (fI fw21 a0 17) (fI fw21 a0 16) < n21) (H : Heap) (locs : List Loc) (ls : Array Slot) (hw : Wd D A s.heap L0 fw21 H locs) (hl : lv_has ls 3 [(0, .ref a0), (1, .int (iI y1_21))]), W p l e ({ frames := 7, cells := 0, slots := 0, locals := 149 } : Room) s m ([.ref a0] : List Value).toArray below meth c H locs (0 + 0) (0 + 0) (MQ below (Qv D (tq cy) L0 f0 s.heap.size (fun (L1 : List Nat) (f1 : Nat → va_E) => L0 = L1 ∧ MS cy L0 f1 a0 ad ∧ Kp a0 ad [21] [15, 16, 17, 18, 19, 20] f0 f1 ∧ (0 ≤ fI f1 a0 15 ∧ fI f1 a0 15 ≤ 168 ∧ 0 ≤ fI f1 a0 16 ∧ fI f1 a0 16 ≤ 168 ∧ 0 ≤ fI f1 a0 20 ∧ (fI f1 a0 20 = 0 → fI f0 a0 20 = 0) ∧ aI f1 (ad 21) 3 = 2 ∧ aI f1 (ad 21) 1 = aI f0 (ad 21) 1 ∧ aI f1 (ad 21) 2 = aI f0 (ad 21) 2 ∧ aI f1 (ad 21) 4 = aI f0 (ad 21) 4))) ([.ref a0] : List Value).toArray s 0 0 A) (F0 m 21 ls []) := by
      intro n21
      induction n21 with
      | zero => intro y1_21 ly1_21 uy1_21 L fw21 hs hE j1 j2 j3 j4 j5 k1 k2 z1 z2 z4 y3 hn21; exact absurd hn21 (Nat.not_lt_zero _)
      | succ n21 ih21 =>
        intro y1_21 ly1_21 uy1_21 L fw21 hs hE j1 j2 j3 j4 j5 k1 k2 z1 z2 z4 y3 hn21 H locs ls hw hl
        refine lv_aload_n hx hb dX10_weeksTold_21 rfl (lv_at hl 0 rfl) ?_
        refine q_call_i hA hK hw (va_runV (As := []) (rest := []) ⟨hx, hb, hml, hown, hts⟩ (c_X10_weekdayHere zo l D cy L0 fw21 a0 ad hs _) (cwV 0 hts (gT (inV (mr21 _ (List.mem_of_getElem? (i := 4) rfl)) (mr21 _ (List.mem_of_getElem? (i := 5) rfl)) (mr21 _ (List.mem_of_getElem? (i := 6) rfl)) (mr1 _ (List.mem_of_getElem? (i := 5) rfl)) (mr21 _ (List.mem_of_getElem? (i := 7) rfl)))) rfl rfl rfl (by decide +kernel) ⟨Nat.le_of_ble_eq_true rfl, Nat.le_of_ble_eq_true rfl⟩) (Wd.preV zo hA hZ hw hK hs.1 hs.2.1 rfl) rfl rfl hl.1 rfl (lv_room (Nat.le_of_ble_eq_true rfl)) dX10_weeksTold_22 ⟨Nat.le_of_ble_eq_true rfl, Nat.le_of_ble_eq_true rfl⟩) (fun x_3 L1 f1 H locs lx_3 ux_3 ex_3 hw => ?_)
        obtain ⟨rfl, rfl, ex_3⟩ := ex_3
        refine q_if_lt (tgt := 60) hx hb dX10_weeksTold_25 (by decide) ⟨lx_3, ux_3⟩ (fun c25 => ?_) (fun c25 => ?_)
        · refine lv_aload_n hx hb dX10_weeksTold_60 rfl (lv_at hl 0 rfl) ?_
          refine q_getr (ci := 8) (C := RX10) (T := TX10) (N := 26) hx hb hts (fun w h => List.mem_cons_of_mem _ (mfX100 w h)) hown hK hw hs.1 hs.2.1 rfl 21 (by decide) (hts _ (List.mem_cons_of_mem _ (mr3 _ (List.mem_of_getElem? (i := 22) rfl)))) (fun _ h => h) rfl (hs.2.2.1 21 rfl).1 dX10_weeksTold_61 ?_
          refine q_bipush hx hb dX10_weeksTold_64 rfl ?_
          refine lv_iload_n hx hb dX10_weeksTold_66 rfl (lv_at hl 1 rfl) ?_
          refine q_iast hx hb hK hw (hs.2.2.1 21 rfl).2.1 1 (hs.2.2.1 21 rfl).2.2 rfl ⟨by decide, by decide⟩ (by omega) (by show _ < ((44 : Nat) : Int); omega) dX10_weeksTold_67 (fun H locs hw => ?_)
          obtain ⟨f_4, ef_4⟩ : ∃ g : Nat → va_E, g = aU fw21 (ad 21) 6 (iI y1_21) := ⟨_, rfl⟩
          have t14_f_4 : fI f_4 a0 14 = fI fw21 a0 14 := by rw [ef_4]; exact hs.fI_aU rfl _ _
          have t15_f_4 : fI f_4 a0 15 = fI fw21 a0 15 := by rw [ef_4]; exact hs.fI_aU rfl _ _
          have t16_f_4 : fI f_4 a0 16 = fI fw21 a0 16 := by rw [ef_4]; exact hs.fI_aU rfl _ _
          have t17_f_4 : fI f_4 a0 17 = fI fw21 a0 17 := by rw [ef_4]; exact hs.fI_aU rfl _ _
          have t20_f_4 : fI f_4 a0 20 = fI fw21 a0 20 := by rw [ef_4]; exact hs.fI_aU rfl _ _
          have hE := hE.trans (show Kp a0 ad [21] [15, 16, 17, 18, 19, 20] fw21 f_4 by rw [ef_4]; exact Kp_aU hs rfl (by decide))
          have hs_ := hs
          have hs : MS cy L0 f_4 a0 ad := by rw [ef_4]; exact MS_aU hs rfl
          rw [← ef_4] at hw
          have c21_1_f_4 : aI f_4 (ad 21) 1 = aI fw21 (ad 21) 1 := by rw [ef_4]; exact hs_.aI_nj rfl (by decide) (by decide) (by decide)
          have c21_2_f_4 : aI f_4 (ad 21) 2 = aI fw21 (ad 21) 2 := by rw [ef_4]; exact hs_.aI_nj rfl (by decide) (by decide) (by decide)
          have c21_3_f_4 : aI f_4 (ad 21) 3 = aI fw21 (ad 21) 3 := by rw [ef_4]; exact hs_.aI_nj rfl (by decide) (by decide) (by decide)
          have c21_4_f_4 : aI f_4 (ad 21) 4 = aI fw21 (ad 21) 4 := by rw [ef_4]; exact hs_.aI_nj rfl (by decide) (by decide) (by decide)
          exact q_ret_v hx hb hr hlocks hK hAe hw (Nat.le_of_ble_eq_true rfl) (Nat.le_of_ble_eq_true rfl) dX10_weeksTold_68 (by exact ⟨rfl, hs, hE, by first | trivial | omega⟩)
        · refine lv_aload_n hx hb dX10_weeksTold_28 rfl (lv_at hl 0 rfl) ?_
          refine q_call_i hA hK hw (va_runV (As := []) (rest := []) ⟨hx, hb, hml, hown, hts⟩ (c_X10_weekdayHere zo l D cy L0 fw21 a0 ad hs _) (cwV 0 hts (gT (inV (mr21 _ (List.mem_of_getElem? (i := 4) rfl)) (mr21 _ (List.mem_of_getElem? (i := 5) rfl)) (mr21 _ (List.mem_of_getElem? (i := 6) rfl)) (mr1 _ (List.mem_of_getElem? (i := 5) rfl)) (mr21 _ (List.mem_of_getElem? (i := 7) rfl)))) rfl rfl rfl (by decide +kernel) ⟨Nat.le_of_ble_eq_true rfl, Nat.le_of_ble_eq_true rfl⟩) (Wd.preV zo hA hZ hw hK hs.1 hs.2.1 rfl) rfl rfl hl.1 rfl (lv_room (Nat.le_of_ble_eq_true rfl)) dX10_weeksTold_29 ⟨Nat.le_of_ble_eq_true rfl, Nat.le_of_ble_eq_true rfl⟩) (fun x_5 L1 f1 H locs lx_5 ux_5 ex_5 hw => ?_)
          obtain ⟨rfl, rfl, ex_5⟩ := ex_5
          refine lv_istore_n (lv' := [(2, .int (iI x_5)), (0, .ref a0), (1, .int (iI y1_21))]) hx hb dX10_weeksTold_32 rfl hl (by decide) rfl (fun ls hl => ?_)
          refine lv_iload_n hx hb dX10_weeksTold_33 rfl (lv_at hl 2 rfl) ?_
          refine lv_iload_n hx hb dX10_weeksTold_34 rfl (lv_at hl 0 rfl) ?_
          refine lv_ishr hx hb dX10_weeksTold_35 ?_
          refine q_num (fun x_6 lx_6 ux_6 ex_6 => ?_)
          refine q_iconst hx hb dX10_weeksTold_36 ?_
          refine lv_iand hx hb dX10_weeksTold_37 ?_
          refine q_num (fun x_7 lx_7 ux_7 ex_7 => ?_)
          refine q_iconst hx hb dX10_weeksTold_38 ?_
          have J47 : ∀ (L : List Nat) (fw47 : Nat → va_E) (hs : MS cy L0 fw47 a0 ad) (hE : Kp a0 ad [21] [15, 16, 17, 18, 19, 20] f0 fw47) (j1 : 0 ≤ fI fw47 a0 16) (j2 : fI fw47 a0 16 ≤ 168) (j3 : 0 ≤ fI fw47 a0 15) (j4 : fI fw47 a0 15 ≤ 168) (j5 : fI fw47 a0 14 ≤ 168) (k1 : 0 ≤ fI fw47 a0 20) (k2 : fI fw47 a0 20 = 0 → fI f0 a0 20 = 0) (z1 : aI fw47 (ad 21) 1 = aI f0 (ad 21) 1) (z2 : aI fw47 (ad 21) 2 = aI f0 (ad 21) 2) (z4 : aI fw47 (ad 21) 4 = aI f0 (ad 21) 4) (y3 : aI fw47 (ad 21) 3 = 2) (k8 : fI fw47 a0 16 = fI fw21 a0 16) (H : Heap) (locs : List Loc) (ls : Array Slot) (hw : Wd D A s.heap L0 fw47 H locs) (hl : lv_has ls 3 [(0, .ref a0), (1, .int (iI y1_21)), (2, .int (iI x_5))]), W p l e ({ frames := 7, cells := 0, slots := 0, locals := 149 } : Room) s m ([.ref a0] : List Value).toArray below meth c H locs (0 + 0 + 0 + 0) (0 + 0 + 0 + 0) (MQ below (Qv D (tq cy) L0 f0 s.heap.size (fun (L1 : List Nat) (f1 : Nat → va_E) => L0 = L1 ∧ MS cy L0 f1 a0 ad ∧ Kp a0 ad [21] [15, 16, 17, 18, 19, 20] f0 f1 ∧ (0 ≤ fI f1 a0 15 ∧ fI f1 a0 15 ≤ 168 ∧ 0 ≤ fI f1 a0 16 ∧ fI f1 a0 16 ≤ 168 ∧ 0 ≤ fI f1 a0 20 ∧ (fI f1 a0 20 = 0 → fI f0 a0 20 = 0) ∧ aI f1 (ad 21) 3 = 2 ∧ aI f1 (ad 21) 1 = aI f0 (ad 21) 1 ∧ aI f1 (ad 21) 2 = aI f0 (ad 21) 2 ∧ aI f1 (ad 21) 4 = aI f0 (ad 21) 4))) ([.ref a0] : List Value).toArray s 0 0 A) (F0 m 47 ls []) := by
            intro L fw47 hs hE j1 j2 j3 j4 j5 k1 k2 z1 z2 z4 y3 k8 H locs ls hw hl
            refine lv_iload_n hx hb dX10_weeksTold_47 rfl (lv_at hl 1 rfl) ?_
            refine q_iconst hx hb dX10_weeksTold_48 ?_
            refine lv_iload_n hx hb dX10_weeksTold_49 rfl (lv_at hl 2 rfl) ?_
            refine lv_ishl hx hb dX10_weeksTold_50 ?_
            refine q_num (fun x_8 lx_8 ux_8 ex_8 => ?_)
            refine lv_ior hx hb dX10_weeksTold_51 ?_
            refine q_num (fun x_9 lx_9 ux_9 ex_9 => ?_)
            refine lv_istore_n (lv' := [(1, .int (iI x_9)), (0, .ref a0), (2, .int (iI x_5))]) hx hb dX10_weeksTold_52 rfl hl (by decide) rfl (fun ls hl => ?_)
            refine lv_aload_n hx hb dX10_weeksTold_53 rfl (lv_at hl 1 rfl) ?_
            refine q_call_v hA hK hw (va_runV (As := []) (rest := []) ⟨hx, hb, hml, hown, hts⟩ (c_X10_next zo l D cy L0 fw47 a0 ad hs (by omega) (by omega) (by omega) (by omega) (by omega) _) (cwV 0 hts (gT (inV (mr19 _ (List.mem_of_getElem? (i := 4) rfl)) (mr19 _ (List.mem_of_getElem? (i := 5) rfl)) (mr19 _ (List.mem_of_getElem? (i := 6) rfl)) (mr1 _ (List.mem_of_getElem? (i := 5) rfl)) (mr19 _ (List.mem_of_getElem? (i := 7) rfl)))) rfl rfl rfl (by decide +kernel) ⟨Nat.le_of_ble_eq_true rfl, Nat.le_of_ble_eq_true rfl⟩) (Wd.preV zo hA hZ hw hK hs.1 hs.2.1 rfl) rfl rfl hl.1 rfl (lv_room (Nat.le_of_ble_eq_true rfl)) dX10_weeksTold_54 ⟨Nat.le_of_ble_eq_true rfl, Nat.le_of_ble_eq_true rfl⟩) (fun L1 f_11 H locs ex_10 hw => ?_)
            obtain ⟨rfl, hs, hX, ex_10⟩ := ex_10
            have hE := hE.trans (hX.mono (rs' := [21]) (fs' := [15, 16, 17, 18, 19, 20]) (by decide) (by decide))
            have t14_f_11 : fI f_11 a0 14 = fI fw47 a0 14 := hX.2 14 (by decide)
            have t20_f_11 : fI f_11 a0 20 = fI fw47 a0 20 := hX.2 20 (by decide)
            have c21_1_f_11 : aI f_11 (ad 21) 1 = aI fw47 (ad 21) 1 := hX.1 21 rfl (by decide) _
            have c21_2_f_11 : aI f_11 (ad 21) 2 = aI fw47 (ad 21) 2 := hX.1 21 rfl (by decide) _
            have c21_3_f_11 : aI f_11 (ad 21) 3 = aI fw47 (ad 21) 3 := hX.1 21 rfl (by decide) _
            have c21_4_f_11 : aI f_11 (ad 21) 4 = aI fw47 (ad 21) 4 := hX.1 21 rfl (by decide) _
            refine lv_goto (tgt := 21) hx hb dX10_weeksTold_57 (by decide) ?_
            exact ih21 x_9 lx_9 ux_9 L0 f_11 hs hE (by omega) (by omega) (by omega) (by omega) (by omega) (by omega) (by omega) (by omega) (by omega) (by omega) (by omega) (by first | exact tw_dec hn21 (by omega) (by omega) (by omega) (by omega) | exact Nat.lt_succ_self _) _ _ _ hw (lv_sub hl [1, 0] rfl)
          refine q_icmp_ne (tgt := 47) hx hb dX10_weeksTold_39 (by decide) ⟨lx_7, ux_7⟩ ⟨by decide, by decide⟩ (fun c39 => ?_) (fun c39 => ?_)
          · exact J47 L0 fw21 hs hE (by omega) (by omega) (by omega) (by omega) (by omega) (by omega) (by omega) (by omega) (by omega) (by omega) (by omega) (by omega) _ _ _ hw (lv_sub hl [1, 2, 0] rfl)
          · refine lv_aload_n hx hb dX10_weeksTold_42 rfl (lv_at hl 1 rfl) ?_
            refine q_iconst hx hb dX10_weeksTold_43 ?_
            refine q_call_v hA hK hw (va_runV (As := [.int (iI 2)]) (rest := []) ⟨hx, hb, hml, hown, hts⟩ (c_X10_wrong zo l D cy L0 fw21 a0 2 (by decide) (by decide) ad hs (by omega) (by omega) (by omega) (by omega) _) (cwV 1 hts (gT (inV (mr20 _ (List.mem_of_getElem? (i := 12) rfl)) (mr20 _ (List.mem_of_getElem? (i := 13) rfl)) (mr20 _ (List.mem_of_getElem? (i := 14) rfl)) (mr1 _ (List.mem_of_getElem? (i := 5) rfl)) (mr20 _ (List.mem_of_getElem? (i := 15) rfl)))) rfl rfl rfl (by decide +kernel) ⟨Nat.le_of_ble_eq_true rfl, Nat.le_of_ble_eq_true rfl⟩) (Wd.preV zo hA hZ hw hK hs.1 hs.2.1 rfl) rfl rfl hl.1 rfl (lv_room (Nat.le_of_ble_eq_true rfl)) dX10_weeksTold_44 ⟨Nat.le_of_ble_eq_true rfl, Nat.le_of_ble_eq_true rfl⟩) (fun L1 f_13 H locs ex_12 hw => ?_)
            obtain ⟨rfl, hs, hX, ex_12⟩ := ex_12
            have hE := hE.trans (hX.mono (rs' := [21]) (fs' := [15, 16, 17, 18, 19, 20]) (by decide) (by decide))
            have t14_f_13 : fI f_13 a0 14 = fI fw21 a0 14 := hX.2 14 (by decide)
            have t15_f_13 : fI f_13 a0 15 = fI fw21 a0 15 := hX.2 15 (by decide)
            have t16_f_13 : fI f_13 a0 16 = fI fw21 a0 16 := hX.2 16 (by decide)
            have t17_f_13 : fI f_13 a0 17 = fI fw21 a0 17 := hX.2 17 (by decide)
            have c21_1_f_13 : aI f_13 (ad 21) 1 = aI fw21 (ad 21) 1 := hX.1 21 rfl (by decide) _
            have c21_2_f_13 : aI f_13 (ad 21) 2 = aI fw21 (ad 21) 2 := hX.1 21 rfl (by decide) _
            have c21_3_f_13 : aI f_13 (ad 21) 3 = aI fw21 (ad 21) 3 := hX.1 21 rfl (by decide) _
            have c21_4_f_13 : aI f_13 (ad 21) 4 = aI fw21 (ad 21) 4 := hX.1 21 rfl (by decide) _
            exact J47 L0 f_13 hs hE (by omega) (by omega) (by omega) (by omega) (by omega) (by omega) (by omega) (by omega) (by omega) (by omega) (by omega) (by omega) _ _ _ hw (lv_sub hl [1, 2, 0] rfl)
    exact J21 ((tw (fI f_1 a0 20) (fI f_1 a0 17) (fI f_1 a0 16)) + 1) 0 (by decide) (by decide) L0 f_1 hs hE (by omega) (by omega) (by omega) (by omega) (by omega) (by omega) (by omega) (by omega) (by omega) (by omega) (by omega) (by first | exact tw_dec hn21 (by omega) (by omega) (by omega) (by omega) | exact Nat.lt_succ_self _) _ _ _ hw (lv_sub hl [1, 0] rfl)
  · refine lv_aload_n hx hb dX10_weeksTold_16 rfl (lv_at hl 1 rfl) ?_
    refine q_iconst hx hb dX10_weeksTold_17 ?_
    refine q_call_v hA hK hw (va_runV (As := [.int (iI 1)]) (rest := []) ⟨hx, hb, hml, hown, hts⟩ (c_X10_wrong zo l D cy L0 f_1 a0 1 (by decide) (by decide) ad hs (by omega) (by omega) (by omega) (by omega) _) (cwV 1 hts (gT (inV (mr20 _ (List.mem_of_getElem? (i := 12) rfl)) (mr20 _ (List.mem_of_getElem? (i := 13) rfl)) (mr20 _ (List.mem_of_getElem? (i := 14) rfl)) (mr1 _ (List.mem_of_getElem? (i := 5) rfl)) (mr20 _ (List.mem_of_getElem? (i := 15) rfl)))) rfl rfl rfl (by decide +kernel) ⟨Nat.le_of_ble_eq_true rfl, Nat.le_of_ble_eq_true rfl⟩) (Wd.preV zo hA hZ hw hK hs.1 hs.2.1 rfl) rfl rfl hl.1 rfl (lv_room (Nat.le_of_ble_eq_true rfl)) dX10_weeksTold_18 ⟨Nat.le_of_ble_eq_true rfl, Nat.le_of_ble_eq_true rfl⟩) (fun L1 f_15 H locs ex_14 hw => ?_)
    obtain ⟨rfl, hs, hX, ex_14⟩ := ex_14
    have hE := hE.trans (hX.mono (rs' := [21]) (fs' := [15, 16, 17, 18, 19, 20]) (by decide) (by decide))
    have t14_f_15 : fI f_15 a0 14 = fI f_1 a0 14 := hX.2 14 (by decide)
    have t15_f_15 : fI f_15 a0 15 = fI f_1 a0 15 := hX.2 15 (by decide)
    have t16_f_15 : fI f_15 a0 16 = fI f_1 a0 16 := hX.2 16 (by decide)
    have t17_f_15 : fI f_15 a0 17 = fI f_1 a0 17 := hX.2 17 (by decide)
    have c21_1_f_15 : aI f_15 (ad 21) 1 = aI f_1 (ad 21) 1 := hX.1 21 rfl (by decide) _
    have c21_2_f_15 : aI f_15 (ad 21) 2 = aI f_1 (ad 21) 2 := hX.1 21 rfl (by decide) _
    have c21_3_f_15 : aI f_15 (ad 21) 3 = aI f_1 (ad 21) 3 := hX.1 21 rfl (by decide) _
    have c21_4_f_15 : aI f_15 (ad 21) 4 = aI f_1 (ad 21) 4 := hX.1 21 rfl (by decide) _
    have J21 : ∀ (n21 : Nat) (y1_21 : Int) (ly1_21 : -2147483648 ≤ y1_21) (uy1_21 : y1_21 ≤ 2147483647) (L : List Nat) (fw21 : Nat → va_E) (hs : MS cy L0 fw21 a0 ad) (hE : Kp a0 ad [21] [15, 16, 17, 18, 19, 20] f0 fw21) (j1 : 0 ≤ fI fw21 a0 16) (j2 : fI fw21 a0 16 ≤ 168) (j3 : 0 ≤ fI fw21 a0 15) (j4 : fI fw21 a0 15 ≤ 168) (j5 : fI fw21 a0 14 ≤ 168) (k1 : 0 ≤ fI fw21 a0 20) (k2 : fI fw21 a0 20 = 0 → fI f0 a0 20 = 0) (z1 : aI fw21 (ad 21) 1 = aI f0 (ad 21) 1) (z2 : aI fw21 (ad 21) 2 = aI f0 (ad 21) 2) (z4 : aI fw21 (ad 21) 4 = aI f0 (ad 21) 4) (y3 : aI fw21 (ad 21) 3 = 2) (hn21 : tw (fI fw21 a0 20) (fI fw21 a0 17) (fI fw21 a0 16) < n21) (H : Heap) (locs : List Loc) (ls : Array Slot) (hw : Wd D A s.heap L0 fw21 H locs) (hl : lv_has ls 3 [(0, .ref a0), (1, .int (iI y1_21))]), W p l e ({ frames := 7, cells := 0, slots := 0, locals := 149 } : Room) s m ([.ref a0] : List Value).toArray below meth c H locs (0 + 0 + 0) (0 + 0 + 0) (MQ below (Qv D (tq cy) L0 f0 s.heap.size (fun (L1 : List Nat) (f1 : Nat → va_E) => L0 = L1 ∧ MS cy L0 f1 a0 ad ∧ Kp a0 ad [21] [15, 16, 17, 18, 19, 20] f0 f1 ∧ (0 ≤ fI f1 a0 15 ∧ fI f1 a0 15 ≤ 168 ∧ 0 ≤ fI f1 a0 16 ∧ fI f1 a0 16 ≤ 168 ∧ 0 ≤ fI f1 a0 20 ∧ (fI f1 a0 20 = 0 → fI f0 a0 20 = 0) ∧ aI f1 (ad 21) 3 = 2 ∧ aI f1 (ad 21) 1 = aI f0 (ad 21) 1 ∧ aI f1 (ad 21) 2 = aI f0 (ad 21) 2 ∧ aI f1 (ad 21) 4 = aI f0 (ad 21) 4))) ([.ref a0] : List Value).toArray s 0 0 A) (F0 m 21 ls []) := by
      intro n21
      induction n21 with
      | zero => intro y1_21 ly1_21 uy1_21 L fw21 hs hE j1 j2 j3 j4 j5 k1 k2 z1 z2 z4 y3 hn21; exact absurd hn21 (Nat.not_lt_zero _)
      | succ n21 ih21 =>
        intro y1_21 ly1_21 uy1_21 L fw21 hs hE j1 j2 j3 j4 j5 k1 k2 z1 z2 z4 y3 hn21 H locs ls hw hl
        refine lv_aload_n hx hb dX10_weeksTold_21 rfl (lv_at hl 0 rfl) ?_
        refine q_call_i hA hK hw (va_runV (As := []) (rest := []) ⟨hx, hb, hml, hown, hts⟩ (c_X10_weekdayHere zo l D cy L0 fw21 a0 ad hs _) (cwV 0 hts (gT (inV (mr21 _ (List.mem_of_getElem? (i := 4) rfl)) (mr21 _ (List.mem_of_getElem? (i := 5) rfl)) (mr21 _ (List.mem_of_getElem? (i := 6) rfl)) (mr1 _ (List.mem_of_getElem? (i := 5) rfl)) (mr21 _ (List.mem_of_getElem? (i := 7) rfl)))) rfl rfl rfl (by decide +kernel) ⟨Nat.le_of_ble_eq_true rfl, Nat.le_of_ble_eq_true rfl⟩) (Wd.preV zo hA hZ hw hK hs.1 hs.2.1 rfl) rfl rfl hl.1 rfl (lv_room (Nat.le_of_ble_eq_true rfl)) dX10_weeksTold_22 ⟨Nat.le_of_ble_eq_true rfl, Nat.le_of_ble_eq_true rfl⟩) (fun x_16 L1 f1 H locs lx_16 ux_16 ex_16 hw => ?_)
        obtain ⟨rfl, rfl, ex_16⟩ := ex_16
        refine q_if_lt (tgt := 60) hx hb dX10_weeksTold_25 (by decide) ⟨lx_16, ux_16⟩ (fun c25 => ?_) (fun c25 => ?_)
        · refine lv_aload_n hx hb dX10_weeksTold_60 rfl (lv_at hl 0 rfl) ?_
          refine q_getr (ci := 8) (C := RX10) (T := TX10) (N := 26) hx hb hts (fun w h => List.mem_cons_of_mem _ (mfX100 w h)) hown hK hw hs.1 hs.2.1 rfl 21 (by decide) (hts _ (List.mem_cons_of_mem _ (mr3 _ (List.mem_of_getElem? (i := 22) rfl)))) (fun _ h => h) rfl (hs.2.2.1 21 rfl).1 dX10_weeksTold_61 ?_
          refine q_bipush hx hb dX10_weeksTold_64 rfl ?_
          refine lv_iload_n hx hb dX10_weeksTold_66 rfl (lv_at hl 1 rfl) ?_
          refine q_iast hx hb hK hw (hs.2.2.1 21 rfl).2.1 1 (hs.2.2.1 21 rfl).2.2 rfl ⟨by decide, by decide⟩ (by omega) (by show _ < ((44 : Nat) : Int); omega) dX10_weeksTold_67 (fun H locs hw => ?_)
          obtain ⟨f_17, ef_17⟩ : ∃ g : Nat → va_E, g = aU fw21 (ad 21) 6 (iI y1_21) := ⟨_, rfl⟩
          have t14_f_17 : fI f_17 a0 14 = fI fw21 a0 14 := by rw [ef_17]; exact hs.fI_aU rfl _ _
          have t15_f_17 : fI f_17 a0 15 = fI fw21 a0 15 := by rw [ef_17]; exact hs.fI_aU rfl _ _
          have t16_f_17 : fI f_17 a0 16 = fI fw21 a0 16 := by rw [ef_17]; exact hs.fI_aU rfl _ _
          have t17_f_17 : fI f_17 a0 17 = fI fw21 a0 17 := by rw [ef_17]; exact hs.fI_aU rfl _ _
          have t20_f_17 : fI f_17 a0 20 = fI fw21 a0 20 := by rw [ef_17]; exact hs.fI_aU rfl _ _
          have hE := hE.trans (show Kp a0 ad [21] [15, 16, 17, 18, 19, 20] fw21 f_17 by rw [ef_17]; exact Kp_aU hs rfl (by decide))
          have hs_ := hs
          have hs : MS cy L0 f_17 a0 ad := by rw [ef_17]; exact MS_aU hs rfl
          rw [← ef_17] at hw
          have c21_1_f_17 : aI f_17 (ad 21) 1 = aI fw21 (ad 21) 1 := by rw [ef_17]; exact hs_.aI_nj rfl (by decide) (by decide) (by decide)
          have c21_2_f_17 : aI f_17 (ad 21) 2 = aI fw21 (ad 21) 2 := by rw [ef_17]; exact hs_.aI_nj rfl (by decide) (by decide) (by decide)
          have c21_3_f_17 : aI f_17 (ad 21) 3 = aI fw21 (ad 21) 3 := by rw [ef_17]; exact hs_.aI_nj rfl (by decide) (by decide) (by decide)
          have c21_4_f_17 : aI f_17 (ad 21) 4 = aI fw21 (ad 21) 4 := by rw [ef_17]; exact hs_.aI_nj rfl (by decide) (by decide) (by decide)
          exact q_ret_v hx hb hr hlocks hK hAe hw (Nat.le_of_ble_eq_true rfl) (Nat.le_of_ble_eq_true rfl) dX10_weeksTold_68 (by exact ⟨rfl, hs, hE, by first | trivial | omega⟩)
        · refine lv_aload_n hx hb dX10_weeksTold_28 rfl (lv_at hl 0 rfl) ?_
          refine q_call_i hA hK hw (va_runV (As := []) (rest := []) ⟨hx, hb, hml, hown, hts⟩ (c_X10_weekdayHere zo l D cy L0 fw21 a0 ad hs _) (cwV 0 hts (gT (inV (mr21 _ (List.mem_of_getElem? (i := 4) rfl)) (mr21 _ (List.mem_of_getElem? (i := 5) rfl)) (mr21 _ (List.mem_of_getElem? (i := 6) rfl)) (mr1 _ (List.mem_of_getElem? (i := 5) rfl)) (mr21 _ (List.mem_of_getElem? (i := 7) rfl)))) rfl rfl rfl (by decide +kernel) ⟨Nat.le_of_ble_eq_true rfl, Nat.le_of_ble_eq_true rfl⟩) (Wd.preV zo hA hZ hw hK hs.1 hs.2.1 rfl) rfl rfl hl.1 rfl (lv_room (Nat.le_of_ble_eq_true rfl)) dX10_weeksTold_29 ⟨Nat.le_of_ble_eq_true rfl, Nat.le_of_ble_eq_true rfl⟩) (fun x_18 L1 f1 H locs lx_18 ux_18 ex_18 hw => ?_)
          obtain ⟨rfl, rfl, ex_18⟩ := ex_18
          refine lv_istore_n (lv' := [(2, .int (iI x_18)), (0, .ref a0), (1, .int (iI y1_21))]) hx hb dX10_weeksTold_32 rfl hl (by decide) rfl (fun ls hl => ?_)
          refine lv_iload_n hx hb dX10_weeksTold_33 rfl (lv_at hl 2 rfl) ?_
          refine lv_iload_n hx hb dX10_weeksTold_34 rfl (lv_at hl 0 rfl) ?_
          refine lv_ishr hx hb dX10_weeksTold_35 ?_
          refine q_num (fun x_19 lx_19 ux_19 ex_19 => ?_)
          refine q_iconst hx hb dX10_weeksTold_36 ?_
          refine lv_iand hx hb dX10_weeksTold_37 ?_
          refine q_num (fun x_20 lx_20 ux_20 ex_20 => ?_)
          refine q_iconst hx hb dX10_weeksTold_38 ?_
          have J47 : ∀ (L : List Nat) (fw47 : Nat → va_E) (hs : MS cy L0 fw47 a0 ad) (hE : Kp a0 ad [21] [15, 16, 17, 18, 19, 20] f0 fw47) (j1 : 0 ≤ fI fw47 a0 16) (j2 : fI fw47 a0 16 ≤ 168) (j3 : 0 ≤ fI fw47 a0 15) (j4 : fI fw47 a0 15 ≤ 168) (j5 : fI fw47 a0 14 ≤ 168) (k1 : 0 ≤ fI fw47 a0 20) (k2 : fI fw47 a0 20 = 0 → fI f0 a0 20 = 0) (z1 : aI fw47 (ad 21) 1 = aI f0 (ad 21) 1) (z2 : aI fw47 (ad 21) 2 = aI f0 (ad 21) 2) (z4 : aI fw47 (ad 21) 4 = aI f0 (ad 21) 4) (y3 : aI fw47 (ad 21) 3 = 2) (k8 : fI fw47 a0 16 = fI fw21 a0 16) (H : Heap) (locs : List Loc) (ls : Array Slot) (hw : Wd D A s.heap L0 fw47 H locs) (hl : lv_has ls 3 [(0, .ref a0), (1, .int (iI y1_21)), (2, .int (iI x_18))]), W p l e ({ frames := 7, cells := 0, slots := 0, locals := 149 } : Room) s m ([.ref a0] : List Value).toArray below meth c H locs (0 + 0 + 0 + 0 + 0) (0 + 0 + 0 + 0 + 0) (MQ below (Qv D (tq cy) L0 f0 s.heap.size (fun (L1 : List Nat) (f1 : Nat → va_E) => L0 = L1 ∧ MS cy L0 f1 a0 ad ∧ Kp a0 ad [21] [15, 16, 17, 18, 19, 20] f0 f1 ∧ (0 ≤ fI f1 a0 15 ∧ fI f1 a0 15 ≤ 168 ∧ 0 ≤ fI f1 a0 16 ∧ fI f1 a0 16 ≤ 168 ∧ 0 ≤ fI f1 a0 20 ∧ (fI f1 a0 20 = 0 → fI f0 a0 20 = 0) ∧ aI f1 (ad 21) 3 = 2 ∧ aI f1 (ad 21) 1 = aI f0 (ad 21) 1 ∧ aI f1 (ad 21) 2 = aI f0 (ad 21) 2 ∧ aI f1 (ad 21) 4 = aI f0 (ad 21) 4))) ([.ref a0] : List Value).toArray s 0 0 A) (F0 m 47 ls []) := by
            intro L fw47 hs hE j1 j2 j3 j4 j5 k1 k2 z1 z2 z4 y3 k8 H locs ls hw hl
            refine lv_iload_n hx hb dX10_weeksTold_47 rfl (lv_at hl 1 rfl) ?_
            refine q_iconst hx hb dX10_weeksTold_48 ?_
            refine lv_iload_n hx hb dX10_weeksTold_49 rfl (lv_at hl 2 rfl) ?_
            refine lv_ishl hx hb dX10_weeksTold_50 ?_
            refine q_num (fun x_21 lx_21 ux_21 ex_21 => ?_)
            refine lv_ior hx hb dX10_weeksTold_51 ?_
            refine q_num (fun x_22 lx_22 ux_22 ex_22 => ?_)
            refine lv_istore_n (lv' := [(1, .int (iI x_22)), (0, .ref a0), (2, .int (iI x_18))]) hx hb dX10_weeksTold_52 rfl hl (by decide) rfl (fun ls hl => ?_)
            refine lv_aload_n hx hb dX10_weeksTold_53 rfl (lv_at hl 1 rfl) ?_
            refine q_call_v hA hK hw (va_runV (As := []) (rest := []) ⟨hx, hb, hml, hown, hts⟩ (c_X10_next zo l D cy L0 fw47 a0 ad hs (by omega) (by omega) (by omega) (by omega) (by omega) _) (cwV 0 hts (gT (inV (mr19 _ (List.mem_of_getElem? (i := 4) rfl)) (mr19 _ (List.mem_of_getElem? (i := 5) rfl)) (mr19 _ (List.mem_of_getElem? (i := 6) rfl)) (mr1 _ (List.mem_of_getElem? (i := 5) rfl)) (mr19 _ (List.mem_of_getElem? (i := 7) rfl)))) rfl rfl rfl (by decide +kernel) ⟨Nat.le_of_ble_eq_true rfl, Nat.le_of_ble_eq_true rfl⟩) (Wd.preV zo hA hZ hw hK hs.1 hs.2.1 rfl) rfl rfl hl.1 rfl (lv_room (Nat.le_of_ble_eq_true rfl)) dX10_weeksTold_54 ⟨Nat.le_of_ble_eq_true rfl, Nat.le_of_ble_eq_true rfl⟩) (fun L1 f_24 H locs ex_23 hw => ?_)
            obtain ⟨rfl, hs, hX, ex_23⟩ := ex_23
            have hE := hE.trans (hX.mono (rs' := [21]) (fs' := [15, 16, 17, 18, 19, 20]) (by decide) (by decide))
            have t14_f_24 : fI f_24 a0 14 = fI fw47 a0 14 := hX.2 14 (by decide)
            have t20_f_24 : fI f_24 a0 20 = fI fw47 a0 20 := hX.2 20 (by decide)
            have c21_1_f_24 : aI f_24 (ad 21) 1 = aI fw47 (ad 21) 1 := hX.1 21 rfl (by decide) _
            have c21_2_f_24 : aI f_24 (ad 21) 2 = aI fw47 (ad 21) 2 := hX.1 21 rfl (by decide) _
            have c21_3_f_24 : aI f_24 (ad 21) 3 = aI fw47 (ad 21) 3 := hX.1 21 rfl (by decide) _
            have c21_4_f_24 : aI f_24 (ad 21) 4 = aI fw47 (ad 21) 4 := hX.1 21 rfl (by decide) _
            refine lv_goto (tgt := 21) hx hb dX10_weeksTold_57 (by decide) ?_
            exact ih21 x_22 lx_22 ux_22 L0 f_24 hs hE (by omega) (by omega) (by omega) (by omega) (by omega) (by omega) (by omega) (by omega) (by omega) (by omega) (by omega) (by first | exact tw_dec hn21 (by omega) (by omega) (by omega) (by omega) | exact Nat.lt_succ_self _) _ _ _ hw (lv_sub hl [1, 0] rfl)
          refine q_icmp_ne (tgt := 47) hx hb dX10_weeksTold_39 (by decide) ⟨lx_20, ux_20⟩ ⟨by decide, by decide⟩ (fun c39 => ?_) (fun c39 => ?_)
          · exact J47 L0 fw21 hs hE (by omega) (by omega) (by omega) (by omega) (by omega) (by omega) (by omega) (by omega) (by omega) (by omega) (by omega) (by omega) _ _ _ hw (lv_sub hl [1, 2, 0] rfl)
          · refine lv_aload_n hx hb dX10_weeksTold_42 rfl (lv_at hl 1 rfl) ?_
            refine q_iconst hx hb dX10_weeksTold_43 ?_
            refine q_call_v hA hK hw (va_runV (As := [.int (iI 2)]) (rest := []) ⟨hx, hb, hml, hown, hts⟩ (c_X10_wrong zo l D cy L0 fw21 a0 2 (by decide) (by decide) ad hs (by omega) (by omega) (by omega) (by omega) _) (cwV 1 hts (gT (inV (mr20 _ (List.mem_of_getElem? (i := 12) rfl)) (mr20 _ (List.mem_of_getElem? (i := 13) rfl)) (mr20 _ (List.mem_of_getElem? (i := 14) rfl)) (mr1 _ (List.mem_of_getElem? (i := 5) rfl)) (mr20 _ (List.mem_of_getElem? (i := 15) rfl)))) rfl rfl rfl (by decide +kernel) ⟨Nat.le_of_ble_eq_true rfl, Nat.le_of_ble_eq_true rfl⟩) (Wd.preV zo hA hZ hw hK hs.1 hs.2.1 rfl) rfl rfl hl.1 rfl (lv_room (Nat.le_of_ble_eq_true rfl)) dX10_weeksTold_44 ⟨Nat.le_of_ble_eq_true rfl, Nat.le_of_ble_eq_true rfl⟩) (fun L1 f_26 H locs ex_25 hw => ?_)
            obtain ⟨rfl, hs, hX, ex_25⟩ := ex_25
            have hE := hE.trans (hX.mono (rs' := [21]) (fs' := [15, 16, 17, 18, 19, 20]) (by decide) (by decide))
            have t14_f_26 : fI f_26 a0 14 = fI fw21 a0 14 := hX.2 14 (by decide)
            have t15_f_26 : fI f_26 a0 15 = fI fw21 a0 15 := hX.2 15 (by decide)
            have t16_f_26 : fI f_26 a0 16 = fI fw21 a0 16 := hX.2 16 (by decide)
            have t17_f_26 : fI f_26 a0 17 = fI fw21 a0 17 := hX.2 17 (by decide)
            have c21_1_f_26 : aI f_26 (ad 21) 1 = aI fw21 (ad 21) 1 := hX.1 21 rfl (by decide) _
            have c21_2_f_26 : aI f_26 (ad 21) 2 = aI fw21 (ad 21) 2 := hX.1 21 rfl (by decide) _
            have c21_3_f_26 : aI f_26 (ad 21) 3 = aI fw21 (ad 21) 3 := hX.1 21 rfl (by decide) _
            have c21_4_f_26 : aI f_26 (ad 21) 4 = aI fw21 (ad 21) 4 := hX.1 21 rfl (by decide) _
            exact J47 L0 f_26 hs hE (by omega) (by omega) (by omega) (by omega) (by omega) (by omega) (by omega) (by omega) (by omega) (by omega) (by omega) (by omega) _ _ _ hw (lv_sub hl [1, 2, 0] rfl)
    exact J21 ((tw (fI f_15 a0 20) (fI f_15 a0 17) (fI f_15 a0 16)) + 1) 0 (by decide) (by decide) L0 f_15 hs hE (by omega) (by omega) (by omega) (by omega) (by omega) (by omega) (by omega) (by omega) (by omega) (by omega) (by omega) (by first | exact tw_dec hn21 (by omega) (by omega) (by omega) (by omega) | exact Nat.lt_succ_self _) _ _ _ hw (lv_sub hl [1, 0] rfl)
set_option maxHeartbeats 4000000 in
set_option maxRecDepth 100000 in
theorem c_X10_monthsTold {Z : Zt} (zo : Zok Z) (l : Launch) (D : va_G) (cy : Cy) (L0 : List Nat) (f0 : Nat → va_E) (a0 : Nat) (ad : Nat → Nat) (hs : MS cy L0 f0 a0 ad) (p1 : 0 ≤ fI f0 a0 15) (p2 : fI f0 a0 15 ≤ 168) (p3 : 0 ≤ fI f0 a0 16) (p4 : fI f0 a0 16 ≤ 168) (p5 : fI f0 a0 14 ≤ 168) (p6 : 0 ≤ fI f0 a0 20) : Cv Z l yX10_monthsTold (Cond.code yX10_monthsTold cX10_monthsTold 1 none :: TB) ({ frames := 8, cells := 0, slots := 0, locals := 170 } : Room) 0 0 D (tq cy) [.ref a0] L0 f0 (fun (L1 : List Nat) (f1 : Nat → va_E) => L0 = L1 ∧ MS cy L0 f1 a0 ad ∧ Kp a0 ad [21] [15, 16, 17, 18, 19, 20] f0 f1 ∧ (0 ≤ fI f1 a0 15 ∧ fI f1 a0 15 ≤ 168 ∧ 0 ≤ fI f1 a0 16 ∧ fI f1 a0 16 ≤ 168 ∧ 0 ≤ fI f1 a0 20 ∧ (fI f1 a0 20 = 0 → fI f0 a0 20 = 0) ∧ (fI f1 a0 20 = 0 → 3 ≤ aI f1 (ad 21) 3 ∧ aI f1 (ad 21) 3 ≤ 6) ∧ aI f1 (ad 21) 1 = aI f0 (ad 21) 1 ∧ aI f1 (ad 21) 2 = aI f0 (ad 21) 2 ∧ aI f1 (ad 21) 4 = aI f0 (ad 21) 4)) := by
  refine Cv.enter (cc := cX10_monthsTold) (n := 1) rfl (plainFor_of_name (by decide)) (Nat.le_of_ble_eq_true rfl) ?_
  intro p e s m below meth c ls A hx hb hr hts hown hlocks hnm hml hK hA hAe hw hZ hl
  have hown : s.vm.findClass RX10 = some m.cls := hown
  have hl : lv_has ls 1 [(0, .ref a0)] := hl
  have hN : ZN s := (zo.2.2.2.2 _ _ _ hZ).2
  have hE : Kp a0 ad [21] [15, 16, 17, 18, 19, 20] f0 f0 := Kp.refl _ _ _ _ _
  refine lv_aload_n hx hb dX10_monthsTold_0 rfl (lv_at hl 0 rfl) ?_
  obtain ⟨t_1, v_t_1, h_t_1⟩ : ∃ q v : Nat, ∀ (A : Nat → Prop) (U : State) (H : Heap), Z A U H → vk_R RX10 189 "on" q U ∧ Tx [111, 110] q v A U H := ztx_31 zo
  obtain ⟨b_t_1, eb_t_1⟩ : ∃ b : List Int32, b = [111, 110] := ⟨_, rfl⟩
  have nb_t_1 : Asc b_t_1 := by rw [eb_t_1]; exact ⟨by decide, by decide +kernel⟩
  have tx_t_1 : ∀ (A : Nat → Prop) (U : State) (H : Heap), Z A U H → Tx b_t_1 t_1 v_t_1 A U H := fun A U H h => by rw [eb_t_1]; exact (h_t_1 A U H h).2
  refine va_ldcS hx hb hown (h_t_1 _ _ _ hZ).1 dX10_monthsTold_1 ?_
  refine q_call_i hA hK hw (va_runV (As := [.ref t_1]) (rest := []) ⟨hx, hb, hml, hown, hts⟩ (c_X10_isWord zo l D cy L0 f0 a0 t_1 b_t_1 v_t_1 nb_t_1 tx_t_1 ad hs _) (cwV 1 hts (gT (inV (mr20 _ (List.mem_of_getElem? (i := 3) rfl)) (mr20 _ (List.mem_of_getElem? (i := 4) rfl)) (mr20 _ (List.mem_of_getElem? (i := 5) rfl)) (mr1 _ (List.mem_of_getElem? (i := 5) rfl)) (mr20 _ (List.mem_of_getElem? (i := 6) rfl)))) rfl rfl rfl (by decide +kernel) ⟨Nat.le_of_ble_eq_true rfl, Nat.le_of_ble_eq_true rfl⟩) (Wd.preV zo hA hZ hw hK hs.1 hs.2.1 rfl) rfl rfl hl.1 rfl (lv_room (Nat.le_of_ble_eq_true rfl)) dX10_monthsTold_3 ⟨Nat.le_of_ble_eq_true rfl, Nat.le_of_ble_eq_true rfl⟩) (fun x_2 L1 f1 H locs lx_2 ux_2 ex_2 hw => ?_)
  obtain ⟨rfl, rfl, ex_2⟩ := ex_2
  refine q_if_eq (tgt := 37) hx hb dX10_monthsTold_6 (by decide) ⟨lx_2, ux_2⟩ (fun c6 => ?_) (fun c6 => ?_)
  · refine lv_aload_n hx hb dX10_monthsTold_37 rfl (lv_at hl 0 rfl) ?_
    obtain ⟨t_3, v_t_3, h_t_3⟩ : ∃ q v : Nat, ∀ (A : Nat → Prop) (U : State) (H : Heap), Z A U H → vk_R RX10 191 "end" q U ∧ Tx [101, 110, 100] q v A U H := ztx_32 zo
    obtain ⟨b_t_3, eb_t_3⟩ : ∃ b : List Int32, b = [101, 110, 100] := ⟨_, rfl⟩
    have nb_t_3 : Asc b_t_3 := by rw [eb_t_3]; exact ⟨by decide, by decide +kernel⟩
    have tx_t_3 : ∀ (A : Nat → Prop) (U : State) (H : Heap), Z A U H → Tx b_t_3 t_3 v_t_3 A U H := fun A U H h => by rw [eb_t_3]; exact (h_t_3 A U H h).2
    refine va_ldcS hx hb hown (h_t_3 _ _ _ hZ).1 dX10_monthsTold_38 ?_
    refine q_call_i hA hK hw (va_runV (As := [.ref t_3]) (rest := []) ⟨hx, hb, hml, hown, hts⟩ (c_X10_isWord zo l D cy L0 f0 a0 t_3 b_t_3 v_t_3 nb_t_3 tx_t_3 ad hs _) (cwV 1 hts (gT (inV (mr20 _ (List.mem_of_getElem? (i := 3) rfl)) (mr20 _ (List.mem_of_getElem? (i := 4) rfl)) (mr20 _ (List.mem_of_getElem? (i := 5) rfl)) (mr1 _ (List.mem_of_getElem? (i := 5) rfl)) (mr20 _ (List.mem_of_getElem? (i := 6) rfl)))) rfl rfl rfl (by decide +kernel) ⟨Nat.le_of_ble_eq_true rfl, Nat.le_of_ble_eq_true rfl⟩) (Wd.preV zo hA hZ hw hK hs.1 hs.2.1 rfl) rfl rfl hl.1 rfl (lv_room (Nat.le_of_ble_eq_true rfl)) dX10_monthsTold_40 ⟨Nat.le_of_ble_eq_true rfl, Nat.le_of_ble_eq_true rfl⟩) (fun x_4 L1 f1 H locs lx_4 ux_4 ex_4 hw => ?_)
    obtain ⟨rfl, rfl, ex_4⟩ := ex_4
    refine q_if_eq (tgt := 74) hx hb dX10_monthsTold_43 (by decide) ⟨lx_4, ux_4⟩ (fun c43 => ?_) (fun c43 => ?_)
    · refine lv_aload_n hx hb dX10_monthsTold_74 rfl (lv_at hl 0 rfl) ?_
      obtain ⟨t_5, v_t_5, h_t_5⟩ : ∃ q v : Nat, ∀ (A : Nat → Prop) (U : State) (H : Heap), Z A U H → vk_R RX10 193 "nth" q U ∧ Tx [110, 116, 104] q v A U H := ztx_33 zo
      obtain ⟨b_t_5, eb_t_5⟩ : ∃ b : List Int32, b = [110, 116, 104] := ⟨_, rfl⟩
      have nb_t_5 : Asc b_t_5 := by rw [eb_t_5]; exact ⟨by decide, by decide +kernel⟩
      have tx_t_5 : ∀ (A : Nat → Prop) (U : State) (H : Heap), Z A U H → Tx b_t_5 t_5 v_t_5 A U H := fun A U H h => by rw [eb_t_5]; exact (h_t_5 A U H h).2
      refine va_ldcS hx hb hown (h_t_5 _ _ _ hZ).1 dX10_monthsTold_75 ?_
      refine q_call_i hA hK hw (va_runV (As := [.ref t_5]) (rest := []) ⟨hx, hb, hml, hown, hts⟩ (c_X10_isWord zo l D cy L0 f0 a0 t_5 b_t_5 v_t_5 nb_t_5 tx_t_5 ad hs _) (cwV 1 hts (gT (inV (mr20 _ (List.mem_of_getElem? (i := 3) rfl)) (mr20 _ (List.mem_of_getElem? (i := 4) rfl)) (mr20 _ (List.mem_of_getElem? (i := 5) rfl)) (mr1 _ (List.mem_of_getElem? (i := 5) rfl)) (mr20 _ (List.mem_of_getElem? (i := 6) rfl)))) rfl rfl rfl (by decide +kernel) ⟨Nat.le_of_ble_eq_true rfl, Nat.le_of_ble_eq_true rfl⟩) (Wd.preV zo hA hZ hw hK hs.1 hs.2.1 rfl) rfl rfl hl.1 rfl (lv_room (Nat.le_of_ble_eq_true rfl)) dX10_monthsTold_77 ⟨Nat.le_of_ble_eq_true rfl, Nat.le_of_ble_eq_true rfl⟩) (fun x_6 L1 f1 H locs lx_6 ux_6 ex_6 hw => ?_)
      obtain ⟨rfl, rfl, ex_6⟩ := ex_6
      refine q_if_eq (tgt := 121) hx hb dX10_monthsTold_80 (by decide) ⟨lx_6, ux_6⟩ (fun c80 => ?_) (fun c80 => ?_)
      · refine lv_aload_n hx hb dX10_monthsTold_121 rfl (lv_at hl 0 rfl) ?_
        obtain ⟨t_7, v_t_7, h_t_7⟩ : ∃ q v : Nat, ∀ (A : Nat → Prop) (U : State) (H : Heap), Z A U H → vk_R RX10 198 "last" q U ∧ Tx [108, 97, 115, 116] q v A U H := ztx_34 zo
        obtain ⟨b_t_7, eb_t_7⟩ : ∃ b : List Int32, b = [108, 97, 115, 116] := ⟨_, rfl⟩
        have nb_t_7 : Asc b_t_7 := by rw [eb_t_7]; exact ⟨by decide, by decide +kernel⟩
        have tx_t_7 : ∀ (A : Nat → Prop) (U : State) (H : Heap), Z A U H → Tx b_t_7 t_7 v_t_7 A U H := fun A U H h => by rw [eb_t_7]; exact (h_t_7 A U H h).2
        refine va_ldcS hx hb hown (h_t_7 _ _ _ hZ).1 dX10_monthsTold_122 ?_
        refine q_call_i hA hK hw (va_runV (As := [.ref t_7]) (rest := []) ⟨hx, hb, hml, hown, hts⟩ (c_X10_isWord zo l D cy L0 f0 a0 t_7 b_t_7 v_t_7 nb_t_7 tx_t_7 ad hs _) (cwV 1 hts (gT (inV (mr20 _ (List.mem_of_getElem? (i := 3) rfl)) (mr20 _ (List.mem_of_getElem? (i := 4) rfl)) (mr20 _ (List.mem_of_getElem? (i := 5) rfl)) (mr1 _ (List.mem_of_getElem? (i := 5) rfl)) (mr20 _ (List.mem_of_getElem? (i := 6) rfl)))) rfl rfl rfl (by decide +kernel) ⟨Nat.le_of_ble_eq_true rfl, Nat.le_of_ble_eq_true rfl⟩) (Wd.preV zo hA hZ hw hK hs.1 hs.2.1 rfl) rfl rfl hl.1 rfl (lv_room (Nat.le_of_ble_eq_true rfl)) dX10_monthsTold_124 ⟨Nat.le_of_ble_eq_true rfl, Nat.le_of_ble_eq_true rfl⟩) (fun x_8 L1 f1 H locs lx_8 ux_8 ex_8 hw => ?_)
        obtain ⟨rfl, rfl, ex_8⟩ := ex_8
        refine q_if_eq (tgt := 156) hx hb dX10_monthsTold_127 (by decide) ⟨lx_8, ux_8⟩ (fun c127 => ?_) (fun c127 => ?_)
        · refine lv_aload_n hx hb dX10_monthsTold_156 rfl (lv_at hl 0 rfl) ?_
          refine q_iconst hx hb dX10_monthsTold_157 ?_
          refine q_call_v hA hK hw (va_runV (As := [.int (iI 1)]) (rest := []) ⟨hx, hb, hml, hown, hts⟩ (c_X10_wrong zo l D cy L0 f0 a0 1 (by decide) (by decide) ad hs (by omega) (by omega) (by omega) (by omega) _) (cwV 1 hts (gT (inV (mr20 _ (List.mem_of_getElem? (i := 12) rfl)) (mr20 _ (List.mem_of_getElem? (i := 13) rfl)) (mr20 _ (List.mem_of_getElem? (i := 14) rfl)) (mr1 _ (List.mem_of_getElem? (i := 5) rfl)) (mr20 _ (List.mem_of_getElem? (i := 15) rfl)))) rfl rfl rfl (by decide +kernel) ⟨Nat.le_of_ble_eq_true rfl, Nat.le_of_ble_eq_true rfl⟩) (Wd.preV zo hA hZ hw hK hs.1 hs.2.1 rfl) rfl rfl hl.1 rfl (lv_room (Nat.le_of_ble_eq_true rfl)) dX10_monthsTold_158 ⟨Nat.le_of_ble_eq_true rfl, Nat.le_of_ble_eq_true rfl⟩) (fun L1 f_10 H locs ex_9 hw => ?_)
          obtain ⟨rfl, hs, hX, ex_9⟩ := ex_9
          have hE := hE.trans (hX.mono (rs' := [21]) (fs' := [15, 16, 17, 18, 19, 20]) (by decide) (by decide))
          have t14_f_10 : fI f_10 a0 14 = fI f0 a0 14 := hX.2 14 (by decide)
          have t15_f_10 : fI f_10 a0 15 = fI f0 a0 15 := hX.2 15 (by decide)
          have t16_f_10 : fI f_10 a0 16 = fI f0 a0 16 := hX.2 16 (by decide)
          have t17_f_10 : fI f_10 a0 17 = fI f0 a0 17 := hX.2 17 (by decide)
          have c21_1_f_10 : aI f_10 (ad 21) 1 = aI f0 (ad 21) 1 := hX.1 21 rfl (by decide) _
          have c21_2_f_10 : aI f_10 (ad 21) 2 = aI f0 (ad 21) 2 := hX.1 21 rfl (by decide) _
          have c21_3_f_10 : aI f_10 (ad 21) 3 = aI f0 (ad 21) 3 := hX.1 21 rfl (by decide) _
          have c21_4_f_10 : aI f_10 (ad 21) 4 = aI f0 (ad 21) 4 := hX.1 21 rfl (by decide) _
          exact q_ret_v hx hb hr hlocks hK hAe hw (Nat.le_of_ble_eq_true rfl) (Nat.le_of_ble_eq_true rfl) dX10_monthsTold_161 (by exact ⟨rfl, hs, hE, by first | trivial | omega⟩)
        · refine lv_aload_n hx hb dX10_monthsTold_130 rfl (lv_at hl 0 rfl) ?_
          refine q_call_v hA hK hw (va_runV (As := []) (rest := []) ⟨hx, hb, hml, hown, hts⟩ (c_X10_next zo l D cy L0 f0 a0 ad hs (by omega) (by omega) (by omega) (by omega) (by omega) _) (cwV 0 hts (gT (inV (mr19 _ (List.mem_of_getElem? (i := 4) rfl)) (mr19 _ (List.mem_of_getElem? (i := 5) rfl)) (mr19 _ (List.mem_of_getElem? (i := 6) rfl)) (mr1 _ (List.mem_of_getElem? (i := 5) rfl)) (mr19 _ (List.mem_of_getElem? (i := 7) rfl)))) rfl rfl rfl (by decide +kernel) ⟨Nat.le_of_ble_eq_true rfl, Nat.le_of_ble_eq_true rfl⟩) (Wd.preV zo hA hZ hw hK hs.1 hs.2.1 rfl) rfl rfl hl.1 rfl (lv_room (Nat.le_of_ble_eq_true rfl)) dX10_monthsTold_131 ⟨Nat.le_of_ble_eq_true rfl, Nat.le_of_ble_eq_true rfl⟩) (fun L1 f_12 H locs ex_11 hw => ?_)
          obtain ⟨rfl, hs, hX, ex_11⟩ := ex_11
          have hE := hE.trans (hX.mono (rs' := [21]) (fs' := [15, 16, 17, 18, 19, 20]) (by decide) (by decide))
          have t14_f_12 : fI f_12 a0 14 = fI f0 a0 14 := hX.2 14 (by decide)
          have t20_f_12 : fI f_12 a0 20 = fI f0 a0 20 := hX.2 20 (by decide)
          have c21_1_f_12 : aI f_12 (ad 21) 1 = aI f0 (ad 21) 1 := hX.1 21 rfl (by decide) _
          have c21_2_f_12 : aI f_12 (ad 21) 2 = aI f0 (ad 21) 2 := hX.1 21 rfl (by decide) _
          have c21_3_f_12 : aI f_12 (ad 21) 3 = aI f0 (ad 21) 3 := hX.1 21 rfl (by decide) _
          have c21_4_f_12 : aI f_12 (ad 21) 4 = aI f0 (ad 21) 4 := hX.1 21 rfl (by decide) _
          refine lv_aload_n hx hb dX10_monthsTold_134 rfl (lv_at hl 0 rfl) ?_
          refine q_getr (ci := 8) (C := RX10) (T := TX10) (N := 26) hx hb hts (fun w h => List.mem_cons_of_mem _ (mfX100 w h)) hown hK hw hs.1 hs.2.1 rfl 21 (by decide) (hts _ (List.mem_cons_of_mem _ (mr3 _ (List.mem_of_getElem? (i := 22) rfl)))) (fun _ h => h) rfl (hs.2.2.1 21 rfl).1 dX10_monthsTold_135 ?_
          refine q_iconst hx hb dX10_monthsTold_138 ?_
          refine q_bipush hx hb dX10_monthsTold_139 rfl ?_
          refine q_iast hx hb hK hw (hs.2.2.1 21 rfl).2.1 1 (hs.2.2.1 21 rfl).2.2 rfl ⟨by decide, by decide⟩ (by omega) (by show _ < ((44 : Nat) : Int); omega) dX10_monthsTold_141 (fun H locs hw => ?_)
          obtain ⟨f_13, ef_13⟩ : ∃ g : Nat → va_E, g = aU f_12 (ad 21) 3 (iI 6) := ⟨_, rfl⟩
          have t14_f_13 : fI f_13 a0 14 = fI f_12 a0 14 := by rw [ef_13]; exact hs.fI_aU rfl _ _
          have t15_f_13 : fI f_13 a0 15 = fI f_12 a0 15 := by rw [ef_13]; exact hs.fI_aU rfl _ _
          have t16_f_13 : fI f_13 a0 16 = fI f_12 a0 16 := by rw [ef_13]; exact hs.fI_aU rfl _ _
          have t17_f_13 : fI f_13 a0 17 = fI f_12 a0 17 := by rw [ef_13]; exact hs.fI_aU rfl _ _
          have t20_f_13 : fI f_13 a0 20 = fI f_12 a0 20 := by rw [ef_13]; exact hs.fI_aU rfl _ _
          have hE := hE.trans (show Kp a0 ad [21] [15, 16, 17, 18, 19, 20] f_12 f_13 by rw [ef_13]; exact Kp_aU hs rfl (by decide))
          have hs_ := hs
          have hs : MS cy L0 f_13 a0 ad := by rw [ef_13]; exact MS_aU hs rfl
          rw [← ef_13] at hw
          have c21_1_f_13 : aI f_13 (ad 21) 1 = aI f_12 (ad 21) 1 := by rw [ef_13]; exact hs_.aI_nj rfl (by decide) (by decide) (by decide)
          have c21_2_f_13 : aI f_13 (ad 21) 2 = aI f_12 (ad 21) 2 := by rw [ef_13]; exact hs_.aI_nj rfl (by decide) (by decide) (by decide)
          have c21_3_f_13 : aI f_13 (ad 21) 3 = 6 := by rw [ef_13]; exact hs_.aI_self rfl ⟨by decide, by decide⟩
          have c21_4_f_13 : aI f_13 (ad 21) 4 = aI f_12 (ad 21) 4 := by rw [ef_13]; exact hs_.aI_nj rfl (by decide) (by decide) (by decide)
          refine lv_aload_n hx hb dX10_monthsTold_142 rfl (lv_at hl 0 rfl) ?_
          refine q_getr (ci := 8) (C := RX10) (T := TX10) (N := 26) hx hb hts (fun w h => List.mem_cons_of_mem _ (mfX100 w h)) hown hK hw hs.1 hs.2.1 rfl 21 (by decide) (hts _ (List.mem_cons_of_mem _ (mr3 _ (List.mem_of_getElem? (i := 22) rfl)))) (fun _ h => h) rfl (hs.2.2.1 21 rfl).1 dX10_monthsTold_143 ?_
          refine q_bipush hx hb dX10_monthsTold_146 rfl ?_
          refine lv_aload_n hx hb dX10_monthsTold_148 rfl (lv_at hl 0 rfl) ?_
          refine q_call_i hA hK hw (va_runV (As := []) (rest := [.int (iI 6), .ref (ad 21)]) ⟨hx, hb, hml, hown, hts⟩ (c_X10_weekdayTold zo l D cy L0 f_13 a0 ad hs (by omega) (by omega) (by omega) (by omega) (by omega) (by omega) _) (cwV 0 hts (gT (inV (mr21 _ (List.mem_of_getElem? (i := 12) rfl)) (mr21 _ (List.mem_of_getElem? (i := 13) rfl)) (mr21 _ (List.mem_of_getElem? (i := 14) rfl)) (mr1 _ (List.mem_of_getElem? (i := 5) rfl)) (mr21 _ (List.mem_of_getElem? (i := 15) rfl)))) rfl rfl rfl (by decide +kernel) ⟨Nat.le_of_ble_eq_true rfl, Nat.le_of_ble_eq_true rfl⟩) (Wd.preV zo hA hZ hw hK hs.1 hs.2.1 rfl) rfl rfl hl.1 rfl (lv_room (Nat.le_of_ble_eq_true rfl)) dX10_monthsTold_149 ⟨Nat.le_of_ble_eq_true rfl, Nat.le_of_ble_eq_true rfl⟩) (fun x_14 L1 f_15 H locs lx_14 ux_14 ex_14 hw => ?_)
          obtain ⟨rfl, hs, hX, ex_14⟩ := ex_14
          have hE := hE.trans (hX.mono (rs' := [21]) (fs' := [15, 16, 17, 18, 19, 20]) (by decide) (by decide))
          have t14_f_15 : fI f_15 a0 14 = fI f_13 a0 14 := hX.2 14 (by decide)
          have c21_1_f_15 : aI f_15 (ad 21) 1 = aI f_13 (ad 21) 1 := hX.1 21 rfl (by decide) _
          have c21_2_f_15 : aI f_15 (ad 21) 2 = aI f_13 (ad 21) 2 := hX.1 21 rfl (by decide) _
          have c21_3_f_15 : aI f_15 (ad 21) 3 = aI f_13 (ad 21) 3 := hX.1 21 rfl (by decide) _
          have c21_4_f_15 : aI f_15 (ad 21) 4 = aI f_13 (ad 21) 4 := hX.1 21 rfl (by decide) _
          refine q_iast hx hb hK hw (hs.2.2.1 21 rfl).2.1 1 (hs.2.2.1 21 rfl).2.2 rfl ⟨by decide, by decide⟩ (by omega) (by show _ < ((44 : Nat) : Int); omega) dX10_monthsTold_152 (fun H locs hw => ?_)
          obtain ⟨f_16, ef_16⟩ : ∃ g : Nat → va_E, g = aU f_15 (ad 21) 6 (iI x_14) := ⟨_, rfl⟩
          have t14_f_16 : fI f_16 a0 14 = fI f_15 a0 14 := by rw [ef_16]; exact hs.fI_aU rfl _ _
          have t15_f_16 : fI f_16 a0 15 = fI f_15 a0 15 := by rw [ef_16]; exact hs.fI_aU rfl _ _
          have t16_f_16 : fI f_16 a0 16 = fI f_15 a0 16 := by rw [ef_16]; exact hs.fI_aU rfl _ _
          have t17_f_16 : fI f_16 a0 17 = fI f_15 a0 17 := by rw [ef_16]; exact hs.fI_aU rfl _ _
          have t20_f_16 : fI f_16 a0 20 = fI f_15 a0 20 := by rw [ef_16]; exact hs.fI_aU rfl _ _
          have hE := hE.trans (show Kp a0 ad [21] [15, 16, 17, 18, 19, 20] f_15 f_16 by rw [ef_16]; exact Kp_aU hs rfl (by decide))
          have hs_ := hs
          have hs : MS cy L0 f_16 a0 ad := by rw [ef_16]; exact MS_aU hs rfl
          rw [← ef_16] at hw
          have c21_1_f_16 : aI f_16 (ad 21) 1 = aI f_15 (ad 21) 1 := by rw [ef_16]; exact hs_.aI_nj rfl (by decide) (by decide) (by decide)
          have c21_2_f_16 : aI f_16 (ad 21) 2 = aI f_15 (ad 21) 2 := by rw [ef_16]; exact hs_.aI_nj rfl (by decide) (by decide) (by decide)
          have c21_3_f_16 : aI f_16 (ad 21) 3 = aI f_15 (ad 21) 3 := by rw [ef_16]; exact hs_.aI_nj rfl (by decide) (by decide) (by decide)
          have c21_4_f_16 : aI f_16 (ad 21) 4 = aI f_15 (ad 21) 4 := by rw [ef_16]; exact hs_.aI_nj rfl (by decide) (by decide) (by decide)
          refine lv_goto (tgt := 161) hx hb dX10_monthsTold_153 (by decide) ?_
          exact q_ret_v hx hb hr hlocks hK hAe hw (Nat.le_of_ble_eq_true rfl) (Nat.le_of_ble_eq_true rfl) dX10_monthsTold_161 (by exact ⟨rfl, hs, hE, by first | trivial | omega⟩)
      · refine lv_aload_n hx hb dX10_monthsTold_83 rfl (lv_at hl 0 rfl) ?_
        refine q_call_v hA hK hw (va_runV (As := []) (rest := []) ⟨hx, hb, hml, hown, hts⟩ (c_X10_next zo l D cy L0 f0 a0 ad hs (by omega) (by omega) (by omega) (by omega) (by omega) _) (cwV 0 hts (gT (inV (mr19 _ (List.mem_of_getElem? (i := 4) rfl)) (mr19 _ (List.mem_of_getElem? (i := 5) rfl)) (mr19 _ (List.mem_of_getElem? (i := 6) rfl)) (mr1 _ (List.mem_of_getElem? (i := 5) rfl)) (mr19 _ (List.mem_of_getElem? (i := 7) rfl)))) rfl rfl rfl (by decide +kernel) ⟨Nat.le_of_ble_eq_true rfl, Nat.le_of_ble_eq_true rfl⟩) (Wd.preV zo hA hZ hw hK hs.1 hs.2.1 rfl) rfl rfl hl.1 rfl (lv_room (Nat.le_of_ble_eq_true rfl)) dX10_monthsTold_84 ⟨Nat.le_of_ble_eq_true rfl, Nat.le_of_ble_eq_true rfl⟩) (fun L1 f_18 H locs ex_17 hw => ?_)
        obtain ⟨rfl, hs, hX, ex_17⟩ := ex_17
        have hE := hE.trans (hX.mono (rs' := [21]) (fs' := [15, 16, 17, 18, 19, 20]) (by decide) (by decide))
        have t14_f_18 : fI f_18 a0 14 = fI f0 a0 14 := hX.2 14 (by decide)
        have t20_f_18 : fI f_18 a0 20 = fI f0 a0 20 := hX.2 20 (by decide)
        have c21_1_f_18 : aI f_18 (ad 21) 1 = aI f0 (ad 21) 1 := hX.1 21 rfl (by decide) _
        have c21_2_f_18 : aI f_18 (ad 21) 2 = aI f0 (ad 21) 2 := hX.1 21 rfl (by decide) _
        have c21_3_f_18 : aI f_18 (ad 21) 3 = aI f0 (ad 21) 3 := hX.1 21 rfl (by decide) _
        have c21_4_f_18 : aI f_18 (ad 21) 4 = aI f0 (ad 21) 4 := hX.1 21 rfl (by decide) _
        refine lv_aload_n hx hb dX10_monthsTold_87 rfl (lv_at hl 0 rfl) ?_
        refine q_getr (ci := 8) (C := RX10) (T := TX10) (N := 26) hx hb hts (fun w h => List.mem_cons_of_mem _ (mfX100 w h)) hown hK hw hs.1 hs.2.1 rfl 21 (by decide) (hts _ (List.mem_cons_of_mem _ (mr3 _ (List.mem_of_getElem? (i := 22) rfl)))) (fun _ h => h) rfl (hs.2.2.1 21 rfl).1 dX10_monthsTold_88 ?_
        refine q_iconst hx hb dX10_monthsTold_91 ?_
        refine q_iconst hx hb dX10_monthsTold_92 ?_
        refine q_iast hx hb hK hw (hs.2.2.1 21 rfl).2.1 1 (hs.2.2.1 21 rfl).2.2 rfl ⟨by decide, by decide⟩ (by omega) (by show _ < ((44 : Nat) : Int); omega) dX10_monthsTold_93 (fun H locs hw => ?_)
        obtain ⟨f_19, ef_19⟩ : ∃ g : Nat → va_E, g = aU f_18 (ad 21) 3 (iI 5) := ⟨_, rfl⟩
        have t14_f_19 : fI f_19 a0 14 = fI f_18 a0 14 := by rw [ef_19]; exact hs.fI_aU rfl _ _
        have t15_f_19 : fI f_19 a0 15 = fI f_18 a0 15 := by rw [ef_19]; exact hs.fI_aU rfl _ _
        have t16_f_19 : fI f_19 a0 16 = fI f_18 a0 16 := by rw [ef_19]; exact hs.fI_aU rfl _ _
        have t17_f_19 : fI f_19 a0 17 = fI f_18 a0 17 := by rw [ef_19]; exact hs.fI_aU rfl _ _
        have t20_f_19 : fI f_19 a0 20 = fI f_18 a0 20 := by rw [ef_19]; exact hs.fI_aU rfl _ _
        have hE := hE.trans (show Kp a0 ad [21] [15, 16, 17, 18, 19, 20] f_18 f_19 by rw [ef_19]; exact Kp_aU hs rfl (by decide))
        have hs_ := hs
        have hs : MS cy L0 f_19 a0 ad := by rw [ef_19]; exact MS_aU hs rfl
        rw [← ef_19] at hw
        have c21_1_f_19 : aI f_19 (ad 21) 1 = aI f_18 (ad 21) 1 := by rw [ef_19]; exact hs_.aI_nj rfl (by decide) (by decide) (by decide)
        have c21_2_f_19 : aI f_19 (ad 21) 2 = aI f_18 (ad 21) 2 := by rw [ef_19]; exact hs_.aI_nj rfl (by decide) (by decide) (by decide)
        have c21_3_f_19 : aI f_19 (ad 21) 3 = 5 := by rw [ef_19]; exact hs_.aI_self rfl ⟨by decide, by decide⟩
        have c21_4_f_19 : aI f_19 (ad 21) 4 = aI f_18 (ad 21) 4 := by rw [ef_19]; exact hs_.aI_nj rfl (by decide) (by decide) (by decide)
        refine lv_aload_n hx hb dX10_monthsTold_94 rfl (lv_at hl 0 rfl) ?_
        refine q_getr (ci := 8) (C := RX10) (T := TX10) (N := 26) hx hb hts (fun w h => List.mem_cons_of_mem _ (mfX100 w h)) hown hK hw hs.1 hs.2.1 rfl 21 (by decide) (hts _ (List.mem_cons_of_mem _ (mr3 _ (List.mem_of_getElem? (i := 22) rfl)))) (fun _ h => h) rfl (hs.2.2.1 21 rfl).1 dX10_monthsTold_95 ?_
        refine q_bipush hx hb dX10_monthsTold_98 rfl ?_
        refine lv_aload_n hx hb dX10_monthsTold_100 rfl (lv_at hl 0 rfl) ?_
        refine q_iconst hx hb dX10_monthsTold_101 ?_
        refine q_iconst hx hb dX10_monthsTold_102 ?_
        refine q_call_i hA hK hw (va_runV (As := [.int (iI 1), .int (iI 5)]) (rest := [.int (iI 6), .ref (ad 21)]) ⟨hx, hb, hml, hown, hts⟩ (c_X10_numberTold zo l D cy L0 f_19 a0 1 (by decide) (by decide) 5 (by decide) (by decide) ad hs (by omega) (by omega) (by omega) (by omega) (by omega) (by omega) _) (cwV 2 hts (gT (inV (mr20 _ (List.mem_of_getElem? (i := 16) rfl)) (mr20 _ (List.mem_of_getElem? (i := 17) rfl)) (mr20 _ (List.mem_of_getElem? (i := 18) rfl)) (mr1 _ (List.mem_of_getElem? (i := 5) rfl)) (mr20 _ (List.mem_of_getElem? (i := 19) rfl)))) rfl rfl rfl (by decide +kernel) ⟨Nat.le_of_ble_eq_true rfl, Nat.le_of_ble_eq_true rfl⟩) (Wd.preV zo hA hZ hw hK hs.1 hs.2.1 rfl) rfl rfl hl.1 rfl (lv_room (Nat.le_of_ble_eq_true rfl)) dX10_monthsTold_103 ⟨Nat.le_of_ble_eq_true rfl, Nat.le_of_ble_eq_true rfl⟩) (fun x_20 L1 f_21 H locs lx_20 ux_20 ex_20 hw => ?_)
        obtain ⟨rfl, hs, hX, ex_20⟩ := ex_20
        have hE := hE.trans (hX.mono (rs' := [21]) (fs' := [15, 16, 17, 18, 19, 20]) (by decide) (by decide))
        have t14_f_21 : fI f_21 a0 14 = fI f_19 a0 14 := hX.2 14 (by decide)
        have c21_1_f_21 : aI f_21 (ad 21) 1 = aI f_19 (ad 21) 1 := hX.1 21 rfl (by decide) _
        have c21_2_f_21 : aI f_21 (ad 21) 2 = aI f_19 (ad 21) 2 := hX.1 21 rfl (by decide) _
        have c21_3_f_21 : aI f_21 (ad 21) 3 = aI f_19 (ad 21) 3 := hX.1 21 rfl (by decide) _
        have c21_4_f_21 : aI f_21 (ad 21) 4 = aI f_19 (ad 21) 4 := hX.1 21 rfl (by decide) _
        refine q_iast hx hb hK hw (hs.2.2.1 21 rfl).2.1 1 (hs.2.2.1 21 rfl).2.2 rfl ⟨by decide, by decide⟩ (by omega) (by show _ < ((44 : Nat) : Int); omega) dX10_monthsTold_106 (fun H locs hw => ?_)
        obtain ⟨f_22, ef_22⟩ : ∃ g : Nat → va_E, g = aU f_21 (ad 21) 6 (iI x_20) := ⟨_, rfl⟩
        have t14_f_22 : fI f_22 a0 14 = fI f_21 a0 14 := by rw [ef_22]; exact hs.fI_aU rfl _ _
        have t15_f_22 : fI f_22 a0 15 = fI f_21 a0 15 := by rw [ef_22]; exact hs.fI_aU rfl _ _
        have t16_f_22 : fI f_22 a0 16 = fI f_21 a0 16 := by rw [ef_22]; exact hs.fI_aU rfl _ _
        have t17_f_22 : fI f_22 a0 17 = fI f_21 a0 17 := by rw [ef_22]; exact hs.fI_aU rfl _ _
        have t20_f_22 : fI f_22 a0 20 = fI f_21 a0 20 := by rw [ef_22]; exact hs.fI_aU rfl _ _
        have hE := hE.trans (show Kp a0 ad [21] [15, 16, 17, 18, 19, 20] f_21 f_22 by rw [ef_22]; exact Kp_aU hs rfl (by decide))
        have hs_ := hs
        have hs : MS cy L0 f_22 a0 ad := by rw [ef_22]; exact MS_aU hs rfl
        rw [← ef_22] at hw
        have c21_1_f_22 : aI f_22 (ad 21) 1 = aI f_21 (ad 21) 1 := by rw [ef_22]; exact hs_.aI_nj rfl (by decide) (by decide) (by decide)
        have c21_2_f_22 : aI f_22 (ad 21) 2 = aI f_21 (ad 21) 2 := by rw [ef_22]; exact hs_.aI_nj rfl (by decide) (by decide) (by decide)
        have c21_3_f_22 : aI f_22 (ad 21) 3 = aI f_21 (ad 21) 3 := by rw [ef_22]; exact hs_.aI_nj rfl (by decide) (by decide) (by decide)
        have c21_4_f_22 : aI f_22 (ad 21) 4 = aI f_21 (ad 21) 4 := by rw [ef_22]; exact hs_.aI_nj rfl (by decide) (by decide) (by decide)
        refine lv_aload_n hx hb dX10_monthsTold_107 rfl (lv_at hl 0 rfl) ?_
        refine q_getr (ci := 8) (C := RX10) (T := TX10) (N := 26) hx hb hts (fun w h => List.mem_cons_of_mem _ (mfX100 w h)) hown hK hw hs.1 hs.2.1 rfl 21 (by decide) (hts _ (List.mem_cons_of_mem _ (mr3 _ (List.mem_of_getElem? (i := 22) rfl)))) (fun _ h => h) rfl (hs.2.2.1 21 rfl).1 dX10_monthsTold_108 ?_
        refine q_bipush hx hb dX10_monthsTold_111 rfl ?_
        refine lv_aload_n hx hb dX10_monthsTold_113 rfl (lv_at hl 0 rfl) ?_
        refine q_call_i hA hK hw (va_runV (As := []) (rest := [.int (iI 7), .ref (ad 21)]) ⟨hx, hb, hml, hown, hts⟩ (c_X10_weekdayTold zo l D cy L0 f_22 a0 ad hs (by omega) (by omega) (by omega) (by omega) (by omega) (by omega) _) (cwV 0 hts (gT (inV (mr21 _ (List.mem_of_getElem? (i := 12) rfl)) (mr21 _ (List.mem_of_getElem? (i := 13) rfl)) (mr21 _ (List.mem_of_getElem? (i := 14) rfl)) (mr1 _ (List.mem_of_getElem? (i := 5) rfl)) (mr21 _ (List.mem_of_getElem? (i := 15) rfl)))) rfl rfl rfl (by decide +kernel) ⟨Nat.le_of_ble_eq_true rfl, Nat.le_of_ble_eq_true rfl⟩) (Wd.preV zo hA hZ hw hK hs.1 hs.2.1 rfl) rfl rfl hl.1 rfl (lv_room (Nat.le_of_ble_eq_true rfl)) dX10_monthsTold_114 ⟨Nat.le_of_ble_eq_true rfl, Nat.le_of_ble_eq_true rfl⟩) (fun x_23 L1 f_24 H locs lx_23 ux_23 ex_23 hw => ?_)
        obtain ⟨rfl, hs, hX, ex_23⟩ := ex_23
        have hE := hE.trans (hX.mono (rs' := [21]) (fs' := [15, 16, 17, 18, 19, 20]) (by decide) (by decide))
        have t14_f_24 : fI f_24 a0 14 = fI f_22 a0 14 := hX.2 14 (by decide)
        have c21_1_f_24 : aI f_24 (ad 21) 1 = aI f_22 (ad 21) 1 := hX.1 21 rfl (by decide) _
        have c21_2_f_24 : aI f_24 (ad 21) 2 = aI f_22 (ad 21) 2 := hX.1 21 rfl (by decide) _
        have c21_3_f_24 : aI f_24 (ad 21) 3 = aI f_22 (ad 21) 3 := hX.1 21 rfl (by decide) _
        have c21_4_f_24 : aI f_24 (ad 21) 4 = aI f_22 (ad 21) 4 := hX.1 21 rfl (by decide) _
        refine q_iast hx hb hK hw (hs.2.2.1 21 rfl).2.1 1 (hs.2.2.1 21 rfl).2.2 rfl ⟨by decide, by decide⟩ (by omega) (by show _ < ((44 : Nat) : Int); omega) dX10_monthsTold_117 (fun H locs hw => ?_)
        obtain ⟨f_25, ef_25⟩ : ∃ g : Nat → va_E, g = aU f_24 (ad 21) 7 (iI x_23) := ⟨_, rfl⟩
        have t14_f_25 : fI f_25 a0 14 = fI f_24 a0 14 := by rw [ef_25]; exact hs.fI_aU rfl _ _
        have t15_f_25 : fI f_25 a0 15 = fI f_24 a0 15 := by rw [ef_25]; exact hs.fI_aU rfl _ _
        have t16_f_25 : fI f_25 a0 16 = fI f_24 a0 16 := by rw [ef_25]; exact hs.fI_aU rfl _ _
        have t17_f_25 : fI f_25 a0 17 = fI f_24 a0 17 := by rw [ef_25]; exact hs.fI_aU rfl _ _
        have t20_f_25 : fI f_25 a0 20 = fI f_24 a0 20 := by rw [ef_25]; exact hs.fI_aU rfl _ _
        have hE := hE.trans (show Kp a0 ad [21] [15, 16, 17, 18, 19, 20] f_24 f_25 by rw [ef_25]; exact Kp_aU hs rfl (by decide))
        have hs_ := hs
        have hs : MS cy L0 f_25 a0 ad := by rw [ef_25]; exact MS_aU hs rfl
        rw [← ef_25] at hw
        have c21_1_f_25 : aI f_25 (ad 21) 1 = aI f_24 (ad 21) 1 := by rw [ef_25]; exact hs_.aI_nj rfl (by decide) (by decide) (by decide)
        have c21_2_f_25 : aI f_25 (ad 21) 2 = aI f_24 (ad 21) 2 := by rw [ef_25]; exact hs_.aI_nj rfl (by decide) (by decide) (by decide)
        have c21_3_f_25 : aI f_25 (ad 21) 3 = aI f_24 (ad 21) 3 := by rw [ef_25]; exact hs_.aI_nj rfl (by decide) (by decide) (by decide)
        have c21_4_f_25 : aI f_25 (ad 21) 4 = aI f_24 (ad 21) 4 := by rw [ef_25]; exact hs_.aI_nj rfl (by decide) (by decide) (by decide)
        refine lv_goto (tgt := 161) hx hb dX10_monthsTold_118 (by decide) ?_
        exact q_ret_v hx hb hr hlocks hK hAe hw (Nat.le_of_ble_eq_true rfl) (Nat.le_of_ble_eq_true rfl) dX10_monthsTold_161 (by exact ⟨rfl, hs, hE, by first | trivial | omega⟩)
    · refine lv_aload_n hx hb dX10_monthsTold_46 rfl (lv_at hl 0 rfl) ?_
      refine q_call_v hA hK hw (va_runV (As := []) (rest := []) ⟨hx, hb, hml, hown, hts⟩ (c_X10_next zo l D cy L0 f0 a0 ad hs (by omega) (by omega) (by omega) (by omega) (by omega) _) (cwV 0 hts (gT (inV (mr19 _ (List.mem_of_getElem? (i := 4) rfl)) (mr19 _ (List.mem_of_getElem? (i := 5) rfl)) (mr19 _ (List.mem_of_getElem? (i := 6) rfl)) (mr1 _ (List.mem_of_getElem? (i := 5) rfl)) (mr19 _ (List.mem_of_getElem? (i := 7) rfl)))) rfl rfl rfl (by decide +kernel) ⟨Nat.le_of_ble_eq_true rfl, Nat.le_of_ble_eq_true rfl⟩) (Wd.preV zo hA hZ hw hK hs.1 hs.2.1 rfl) rfl rfl hl.1 rfl (lv_room (Nat.le_of_ble_eq_true rfl)) dX10_monthsTold_47 ⟨Nat.le_of_ble_eq_true rfl, Nat.le_of_ble_eq_true rfl⟩) (fun L1 f_27 H locs ex_26 hw => ?_)
      obtain ⟨rfl, hs, hX, ex_26⟩ := ex_26
      have hE := hE.trans (hX.mono (rs' := [21]) (fs' := [15, 16, 17, 18, 19, 20]) (by decide) (by decide))
      have t14_f_27 : fI f_27 a0 14 = fI f0 a0 14 := hX.2 14 (by decide)
      have t20_f_27 : fI f_27 a0 20 = fI f0 a0 20 := hX.2 20 (by decide)
      have c21_1_f_27 : aI f_27 (ad 21) 1 = aI f0 (ad 21) 1 := hX.1 21 rfl (by decide) _
      have c21_2_f_27 : aI f_27 (ad 21) 2 = aI f0 (ad 21) 2 := hX.1 21 rfl (by decide) _
      have c21_3_f_27 : aI f_27 (ad 21) 3 = aI f0 (ad 21) 3 := hX.1 21 rfl (by decide) _
      have c21_4_f_27 : aI f_27 (ad 21) 4 = aI f0 (ad 21) 4 := hX.1 21 rfl (by decide) _
      refine lv_aload_n hx hb dX10_monthsTold_50 rfl (lv_at hl 0 rfl) ?_
      refine q_getr (ci := 8) (C := RX10) (T := TX10) (N := 26) hx hb hts (fun w h => List.mem_cons_of_mem _ (mfX100 w h)) hown hK hw hs.1 hs.2.1 rfl 21 (by decide) (hts _ (List.mem_cons_of_mem _ (mr3 _ (List.mem_of_getElem? (i := 22) rfl)))) (fun _ h => h) rfl (hs.2.2.1 21 rfl).1 dX10_monthsTold_51 ?_
      refine q_iconst hx hb dX10_monthsTold_54 ?_
      refine q_iconst hx hb dX10_monthsTold_55 ?_
      refine q_iast hx hb hK hw (hs.2.2.1 21 rfl).2.1 1 (hs.2.2.1 21 rfl).2.2 rfl ⟨by decide, by decide⟩ (by omega) (by show _ < ((44 : Nat) : Int); omega) dX10_monthsTold_56 (fun H locs hw => ?_)
      obtain ⟨f_28, ef_28⟩ : ∃ g : Nat → va_E, g = aU f_27 (ad 21) 3 (iI 4) := ⟨_, rfl⟩
      have t14_f_28 : fI f_28 a0 14 = fI f_27 a0 14 := by rw [ef_28]; exact hs.fI_aU rfl _ _
      have t15_f_28 : fI f_28 a0 15 = fI f_27 a0 15 := by rw [ef_28]; exact hs.fI_aU rfl _ _
      have t16_f_28 : fI f_28 a0 16 = fI f_27 a0 16 := by rw [ef_28]; exact hs.fI_aU rfl _ _
      have t17_f_28 : fI f_28 a0 17 = fI f_27 a0 17 := by rw [ef_28]; exact hs.fI_aU rfl _ _
      have t20_f_28 : fI f_28 a0 20 = fI f_27 a0 20 := by rw [ef_28]; exact hs.fI_aU rfl _ _
      have hE := hE.trans (show Kp a0 ad [21] [15, 16, 17, 18, 19, 20] f_27 f_28 by rw [ef_28]; exact Kp_aU hs rfl (by decide))
      have hs_ := hs
      have hs : MS cy L0 f_28 a0 ad := by rw [ef_28]; exact MS_aU hs rfl
      rw [← ef_28] at hw
      have c21_1_f_28 : aI f_28 (ad 21) 1 = aI f_27 (ad 21) 1 := by rw [ef_28]; exact hs_.aI_nj rfl (by decide) (by decide) (by decide)
      have c21_2_f_28 : aI f_28 (ad 21) 2 = aI f_27 (ad 21) 2 := by rw [ef_28]; exact hs_.aI_nj rfl (by decide) (by decide) (by decide)
      have c21_3_f_28 : aI f_28 (ad 21) 3 = 4 := by rw [ef_28]; exact hs_.aI_self rfl ⟨by decide, by decide⟩
      have c21_4_f_28 : aI f_28 (ad 21) 4 = aI f_27 (ad 21) 4 := by rw [ef_28]; exact hs_.aI_nj rfl (by decide) (by decide) (by decide)
      refine lv_aload_n hx hb dX10_monthsTold_57 rfl (lv_at hl 0 rfl) ?_
      refine q_getr (ci := 8) (C := RX10) (T := TX10) (N := 26) hx hb hts (fun w h => List.mem_cons_of_mem _ (mfX100 w h)) hown hK hw hs.1 hs.2.1 rfl 21 (by decide) (hts _ (List.mem_cons_of_mem _ (mr3 _ (List.mem_of_getElem? (i := 22) rfl)))) (fun _ h => h) rfl (hs.2.2.1 21 rfl).1 dX10_monthsTold_58 ?_
      refine q_bipush hx hb dX10_monthsTold_61 rfl ?_
      refine lv_aload_n hx hb dX10_monthsTold_63 rfl (lv_at hl 0 rfl) ?_
      refine q_iconst hx hb dX10_monthsTold_64 ?_
      refine q_bipush hx hb dX10_monthsTold_65 rfl ?_
      refine q_call_i hA hK hw (va_runV (As := [.int (iI 1), .int (iI 28)]) (rest := [.int (iI 6), .ref (ad 21)]) ⟨hx, hb, hml, hown, hts⟩ (c_X10_numberTold zo l D cy L0 f_28 a0 1 (by decide) (by decide) 28 (by decide) (by decide) ad hs (by omega) (by omega) (by omega) (by omega) (by omega) (by omega) _) (cwV 2 hts (gT (inV (mr20 _ (List.mem_of_getElem? (i := 16) rfl)) (mr20 _ (List.mem_of_getElem? (i := 17) rfl)) (mr20 _ (List.mem_of_getElem? (i := 18) rfl)) (mr1 _ (List.mem_of_getElem? (i := 5) rfl)) (mr20 _ (List.mem_of_getElem? (i := 19) rfl)))) rfl rfl rfl (by decide +kernel) ⟨Nat.le_of_ble_eq_true rfl, Nat.le_of_ble_eq_true rfl⟩) (Wd.preV zo hA hZ hw hK hs.1 hs.2.1 rfl) rfl rfl hl.1 rfl (lv_room (Nat.le_of_ble_eq_true rfl)) dX10_monthsTold_67 ⟨Nat.le_of_ble_eq_true rfl, Nat.le_of_ble_eq_true rfl⟩) (fun x_29 L1 f_30 H locs lx_29 ux_29 ex_29 hw => ?_)
      obtain ⟨rfl, hs, hX, ex_29⟩ := ex_29
      have hE := hE.trans (hX.mono (rs' := [21]) (fs' := [15, 16, 17, 18, 19, 20]) (by decide) (by decide))
      have t14_f_30 : fI f_30 a0 14 = fI f_28 a0 14 := hX.2 14 (by decide)
      have c21_1_f_30 : aI f_30 (ad 21) 1 = aI f_28 (ad 21) 1 := hX.1 21 rfl (by decide) _
      have c21_2_f_30 : aI f_30 (ad 21) 2 = aI f_28 (ad 21) 2 := hX.1 21 rfl (by decide) _
      have c21_3_f_30 : aI f_30 (ad 21) 3 = aI f_28 (ad 21) 3 := hX.1 21 rfl (by decide) _
      have c21_4_f_30 : aI f_30 (ad 21) 4 = aI f_28 (ad 21) 4 := hX.1 21 rfl (by decide) _
      refine q_iast hx hb hK hw (hs.2.2.1 21 rfl).2.1 1 (hs.2.2.1 21 rfl).2.2 rfl ⟨by decide, by decide⟩ (by omega) (by show _ < ((44 : Nat) : Int); omega) dX10_monthsTold_70 (fun H locs hw => ?_)
      obtain ⟨f_31, ef_31⟩ : ∃ g : Nat → va_E, g = aU f_30 (ad 21) 6 (iI x_29) := ⟨_, rfl⟩
      have t14_f_31 : fI f_31 a0 14 = fI f_30 a0 14 := by rw [ef_31]; exact hs.fI_aU rfl _ _
      have t15_f_31 : fI f_31 a0 15 = fI f_30 a0 15 := by rw [ef_31]; exact hs.fI_aU rfl _ _
      have t16_f_31 : fI f_31 a0 16 = fI f_30 a0 16 := by rw [ef_31]; exact hs.fI_aU rfl _ _
      have t17_f_31 : fI f_31 a0 17 = fI f_30 a0 17 := by rw [ef_31]; exact hs.fI_aU rfl _ _
      have t20_f_31 : fI f_31 a0 20 = fI f_30 a0 20 := by rw [ef_31]; exact hs.fI_aU rfl _ _
      have hE := hE.trans (show Kp a0 ad [21] [15, 16, 17, 18, 19, 20] f_30 f_31 by rw [ef_31]; exact Kp_aU hs rfl (by decide))
      have hs_ := hs
      have hs : MS cy L0 f_31 a0 ad := by rw [ef_31]; exact MS_aU hs rfl
      rw [← ef_31] at hw
      have c21_1_f_31 : aI f_31 (ad 21) 1 = aI f_30 (ad 21) 1 := by rw [ef_31]; exact hs_.aI_nj rfl (by decide) (by decide) (by decide)
      have c21_2_f_31 : aI f_31 (ad 21) 2 = aI f_30 (ad 21) 2 := by rw [ef_31]; exact hs_.aI_nj rfl (by decide) (by decide) (by decide)
      have c21_3_f_31 : aI f_31 (ad 21) 3 = aI f_30 (ad 21) 3 := by rw [ef_31]; exact hs_.aI_nj rfl (by decide) (by decide) (by decide)
      have c21_4_f_31 : aI f_31 (ad 21) 4 = aI f_30 (ad 21) 4 := by rw [ef_31]; exact hs_.aI_nj rfl (by decide) (by decide) (by decide)
      refine lv_goto (tgt := 161) hx hb dX10_monthsTold_71 (by decide) ?_
      exact q_ret_v hx hb hr hlocks hK hAe hw (Nat.le_of_ble_eq_true rfl) (Nat.le_of_ble_eq_true rfl) dX10_monthsTold_161 (by exact ⟨rfl, hs, hE, by first | trivial | omega⟩)
  · refine lv_aload_n hx hb dX10_monthsTold_9 rfl (lv_at hl 0 rfl) ?_
    refine q_call_v hA hK hw (va_runV (As := []) (rest := []) ⟨hx, hb, hml, hown, hts⟩ (c_X10_next zo l D cy L0 f0 a0 ad hs (by omega) (by omega) (by omega) (by omega) (by omega) _) (cwV 0 hts (gT (inV (mr19 _ (List.mem_of_getElem? (i := 4) rfl)) (mr19 _ (List.mem_of_getElem? (i := 5) rfl)) (mr19 _ (List.mem_of_getElem? (i := 6) rfl)) (mr1 _ (List.mem_of_getElem? (i := 5) rfl)) (mr19 _ (List.mem_of_getElem? (i := 7) rfl)))) rfl rfl rfl (by decide +kernel) ⟨Nat.le_of_ble_eq_true rfl, Nat.le_of_ble_eq_true rfl⟩) (Wd.preV zo hA hZ hw hK hs.1 hs.2.1 rfl) rfl rfl hl.1 rfl (lv_room (Nat.le_of_ble_eq_true rfl)) dX10_monthsTold_10 ⟨Nat.le_of_ble_eq_true rfl, Nat.le_of_ble_eq_true rfl⟩) (fun L1 f_33 H locs ex_32 hw => ?_)
    obtain ⟨rfl, hs, hX, ex_32⟩ := ex_32
    have hE := hE.trans (hX.mono (rs' := [21]) (fs' := [15, 16, 17, 18, 19, 20]) (by decide) (by decide))
    have t14_f_33 : fI f_33 a0 14 = fI f0 a0 14 := hX.2 14 (by decide)
    have t20_f_33 : fI f_33 a0 20 = fI f0 a0 20 := hX.2 20 (by decide)
    have c21_1_f_33 : aI f_33 (ad 21) 1 = aI f0 (ad 21) 1 := hX.1 21 rfl (by decide) _
    have c21_2_f_33 : aI f_33 (ad 21) 2 = aI f0 (ad 21) 2 := hX.1 21 rfl (by decide) _
    have c21_3_f_33 : aI f_33 (ad 21) 3 = aI f0 (ad 21) 3 := hX.1 21 rfl (by decide) _
    have c21_4_f_33 : aI f_33 (ad 21) 4 = aI f0 (ad 21) 4 := hX.1 21 rfl (by decide) _
    refine lv_aload_n hx hb dX10_monthsTold_13 rfl (lv_at hl 0 rfl) ?_
    refine q_getr (ci := 8) (C := RX10) (T := TX10) (N := 26) hx hb hts (fun w h => List.mem_cons_of_mem _ (mfX100 w h)) hown hK hw hs.1 hs.2.1 rfl 21 (by decide) (hts _ (List.mem_cons_of_mem _ (mr3 _ (List.mem_of_getElem? (i := 22) rfl)))) (fun _ h => h) rfl (hs.2.2.1 21 rfl).1 dX10_monthsTold_14 ?_
    refine q_iconst hx hb dX10_monthsTold_17 ?_
    refine q_iconst hx hb dX10_monthsTold_18 ?_
    refine q_iast hx hb hK hw (hs.2.2.1 21 rfl).2.1 1 (hs.2.2.1 21 rfl).2.2 rfl ⟨by decide, by decide⟩ (by omega) (by show _ < ((44 : Nat) : Int); omega) dX10_monthsTold_19 (fun H locs hw => ?_)
    obtain ⟨f_34, ef_34⟩ : ∃ g : Nat → va_E, g = aU f_33 (ad 21) 3 (iI 3) := ⟨_, rfl⟩
    have t14_f_34 : fI f_34 a0 14 = fI f_33 a0 14 := by rw [ef_34]; exact hs.fI_aU rfl _ _
    have t15_f_34 : fI f_34 a0 15 = fI f_33 a0 15 := by rw [ef_34]; exact hs.fI_aU rfl _ _
    have t16_f_34 : fI f_34 a0 16 = fI f_33 a0 16 := by rw [ef_34]; exact hs.fI_aU rfl _ _
    have t17_f_34 : fI f_34 a0 17 = fI f_33 a0 17 := by rw [ef_34]; exact hs.fI_aU rfl _ _
    have t20_f_34 : fI f_34 a0 20 = fI f_33 a0 20 := by rw [ef_34]; exact hs.fI_aU rfl _ _
    have hE := hE.trans (show Kp a0 ad [21] [15, 16, 17, 18, 19, 20] f_33 f_34 by rw [ef_34]; exact Kp_aU hs rfl (by decide))
    have hs_ := hs
    have hs : MS cy L0 f_34 a0 ad := by rw [ef_34]; exact MS_aU hs rfl
    rw [← ef_34] at hw
    have c21_1_f_34 : aI f_34 (ad 21) 1 = aI f_33 (ad 21) 1 := by rw [ef_34]; exact hs_.aI_nj rfl (by decide) (by decide) (by decide)
    have c21_2_f_34 : aI f_34 (ad 21) 2 = aI f_33 (ad 21) 2 := by rw [ef_34]; exact hs_.aI_nj rfl (by decide) (by decide) (by decide)
    have c21_3_f_34 : aI f_34 (ad 21) 3 = 3 := by rw [ef_34]; exact hs_.aI_self rfl ⟨by decide, by decide⟩
    have c21_4_f_34 : aI f_34 (ad 21) 4 = aI f_33 (ad 21) 4 := by rw [ef_34]; exact hs_.aI_nj rfl (by decide) (by decide) (by decide)
    refine lv_aload_n hx hb dX10_monthsTold_20 rfl (lv_at hl 0 rfl) ?_
    refine q_getr (ci := 8) (C := RX10) (T := TX10) (N := 26) hx hb hts (fun w h => List.mem_cons_of_mem _ (mfX100 w h)) hown hK hw hs.1 hs.2.1 rfl 21 (by decide) (hts _ (List.mem_cons_of_mem _ (mr3 _ (List.mem_of_getElem? (i := 22) rfl)))) (fun _ h => h) rfl (hs.2.2.1 21 rfl).1 dX10_monthsTold_21 ?_
    refine q_bipush hx hb dX10_monthsTold_24 rfl ?_
    refine lv_aload_n hx hb dX10_monthsTold_26 rfl (lv_at hl 0 rfl) ?_
    refine q_iconst hx hb dX10_monthsTold_27 ?_
    refine q_bipush hx hb dX10_monthsTold_28 rfl ?_
    refine q_call_i hA hK hw (va_runV (As := [.int (iI 1), .int (iI 31)]) (rest := [.int (iI 6), .ref (ad 21)]) ⟨hx, hb, hml, hown, hts⟩ (c_X10_numberTold zo l D cy L0 f_34 a0 1 (by decide) (by decide) 31 (by decide) (by decide) ad hs (by omega) (by omega) (by omega) (by omega) (by omega) (by omega) _) (cwV 2 hts (gT (inV (mr20 _ (List.mem_of_getElem? (i := 16) rfl)) (mr20 _ (List.mem_of_getElem? (i := 17) rfl)) (mr20 _ (List.mem_of_getElem? (i := 18) rfl)) (mr1 _ (List.mem_of_getElem? (i := 5) rfl)) (mr20 _ (List.mem_of_getElem? (i := 19) rfl)))) rfl rfl rfl (by decide +kernel) ⟨Nat.le_of_ble_eq_true rfl, Nat.le_of_ble_eq_true rfl⟩) (Wd.preV zo hA hZ hw hK hs.1 hs.2.1 rfl) rfl rfl hl.1 rfl (lv_room (Nat.le_of_ble_eq_true rfl)) dX10_monthsTold_30 ⟨Nat.le_of_ble_eq_true rfl, Nat.le_of_ble_eq_true rfl⟩) (fun x_35 L1 f_36 H locs lx_35 ux_35 ex_35 hw => ?_)
    obtain ⟨rfl, hs, hX, ex_35⟩ := ex_35
    have hE := hE.trans (hX.mono (rs' := [21]) (fs' := [15, 16, 17, 18, 19, 20]) (by decide) (by decide))
    have t14_f_36 : fI f_36 a0 14 = fI f_34 a0 14 := hX.2 14 (by decide)
    have c21_1_f_36 : aI f_36 (ad 21) 1 = aI f_34 (ad 21) 1 := hX.1 21 rfl (by decide) _
    have c21_2_f_36 : aI f_36 (ad 21) 2 = aI f_34 (ad 21) 2 := hX.1 21 rfl (by decide) _
    have c21_3_f_36 : aI f_36 (ad 21) 3 = aI f_34 (ad 21) 3 := hX.1 21 rfl (by decide) _
    have c21_4_f_36 : aI f_36 (ad 21) 4 = aI f_34 (ad 21) 4 := hX.1 21 rfl (by decide) _
    refine q_iast hx hb hK hw (hs.2.2.1 21 rfl).2.1 1 (hs.2.2.1 21 rfl).2.2 rfl ⟨by decide, by decide⟩ (by omega) (by show _ < ((44 : Nat) : Int); omega) dX10_monthsTold_33 (fun H locs hw => ?_)
    obtain ⟨f_37, ef_37⟩ : ∃ g : Nat → va_E, g = aU f_36 (ad 21) 6 (iI x_35) := ⟨_, rfl⟩
    have t14_f_37 : fI f_37 a0 14 = fI f_36 a0 14 := by rw [ef_37]; exact hs.fI_aU rfl _ _
    have t15_f_37 : fI f_37 a0 15 = fI f_36 a0 15 := by rw [ef_37]; exact hs.fI_aU rfl _ _
    have t16_f_37 : fI f_37 a0 16 = fI f_36 a0 16 := by rw [ef_37]; exact hs.fI_aU rfl _ _
    have t17_f_37 : fI f_37 a0 17 = fI f_36 a0 17 := by rw [ef_37]; exact hs.fI_aU rfl _ _
    have t20_f_37 : fI f_37 a0 20 = fI f_36 a0 20 := by rw [ef_37]; exact hs.fI_aU rfl _ _
    have hE := hE.trans (show Kp a0 ad [21] [15, 16, 17, 18, 19, 20] f_36 f_37 by rw [ef_37]; exact Kp_aU hs rfl (by decide))
    have hs_ := hs
    have hs : MS cy L0 f_37 a0 ad := by rw [ef_37]; exact MS_aU hs rfl
    rw [← ef_37] at hw
    have c21_1_f_37 : aI f_37 (ad 21) 1 = aI f_36 (ad 21) 1 := by rw [ef_37]; exact hs_.aI_nj rfl (by decide) (by decide) (by decide)
    have c21_2_f_37 : aI f_37 (ad 21) 2 = aI f_36 (ad 21) 2 := by rw [ef_37]; exact hs_.aI_nj rfl (by decide) (by decide) (by decide)
    have c21_3_f_37 : aI f_37 (ad 21) 3 = aI f_36 (ad 21) 3 := by rw [ef_37]; exact hs_.aI_nj rfl (by decide) (by decide) (by decide)
    have c21_4_f_37 : aI f_37 (ad 21) 4 = aI f_36 (ad 21) 4 := by rw [ef_37]; exact hs_.aI_nj rfl (by decide) (by decide) (by decide)
    refine lv_goto (tgt := 161) hx hb dX10_monthsTold_34 (by decide) ?_
    exact q_ret_v hx hb hr hlocks hK hAe hw (Nat.le_of_ble_eq_true rfl) (Nat.le_of_ble_eq_true rfl) dX10_monthsTold_161 (by exact ⟨rfl, hs, hE, by first | trivial | omega⟩)
set_option maxHeartbeats 4000000 in
set_option maxRecDepth 100000 in
theorem c_X10_ruleTold {Z : Zt} (zo : Zok Z) (l : Launch) (D : va_G) (cy : Cy) (L0 : List Nat) (f0 : Nat → va_E) (a0 : Nat) (ad : Nat → Nat) (hs : MS cy L0 f0 a0 ad) (p1 : 0 ≤ fI f0 a0 15) (p2 : fI f0 a0 15 ≤ 168) (p3 : 0 ≤ fI f0 a0 16) (p4 : fI f0 a0 16 ≤ 168) (p5 : fI f0 a0 14 ≤ 168) (p6 : 0 ≤ fI f0 a0 20) : Cv Z l yX10_ruleTold (Cond.code yX10_ruleTold cX10_ruleTold 1 none :: TB) ({ frames := 9, cells := 0, slots := 0, locals := 190 } : Room) 0 0 D (tq cy) [.ref a0] L0 f0 (fun (L1 : List Nat) (f1 : Nat → va_E) => L0 = L1 ∧ MS cy L0 f1 a0 ad ∧ Kp a0 ad [21] [15, 16, 17, 18, 19, 20] f0 f1 ∧ (0 ≤ fI f1 a0 15 ∧ fI f1 a0 15 ≤ 168 ∧ 0 ≤ fI f1 a0 16 ∧ fI f1 a0 16 ≤ 168 ∧ 0 ≤ fI f1 a0 20 ∧ (fI f1 a0 20 = 0 → fI f0 a0 20 = 0) ∧ (fI f1 a0 20 = 0 → 0 ≤ aI f1 (ad 21) 4 ∧ aI f1 (ad 21) 4 ≤ 999 ∧ (aI f1 (ad 21) 3 = 0 ∨ 1 ≤ aI f1 (ad 21) 4)) ∧ aI f1 (ad 21) 1 = aI f0 (ad 21) 1 ∧ aI f1 (ad 21) 2 = aI f0 (ad 21) 2)) := by
  refine Cv.enter (cc := cX10_ruleTold) (n := 1) rfl (plainFor_of_name (by decide)) (Nat.le_of_ble_eq_true rfl) ?_
  intro p e s m below meth c ls A hx hb hr hts hown hlocks hnm hml hK hA hAe hw hZ hl
  have hown : s.vm.findClass RX10 = some m.cls := hown
  have hl : lv_has ls 1 [(0, .ref a0)] := hl
  have hN : ZN s := (zo.2.2.2.2 _ _ _ hZ).2
  have hE : Kp a0 ad [21] [15, 16, 17, 18, 19, 20] f0 f0 := Kp.refl _ _ _ _ _
  refine lv_aload_n hx hb dX10_ruleTold_0 rfl (lv_at hl 0 rfl) ?_
  refine q_getr (ci := 8) (C := RX10) (T := TX10) (N := 26) hx hb hts (fun w h => List.mem_cons_of_mem _ (mfX100 w h)) hown hK hw hs.1 hs.2.1 rfl 21 (by decide) (hts _ (List.mem_cons_of_mem _ (mr3 _ (List.mem_of_getElem? (i := 22) rfl)))) (fun _ h => h) rfl (hs.2.2.1 21 rfl).1 dX10_ruleTold_1 ?_
  refine q_bipush hx hb dX10_ruleTold_4 rfl ?_
  refine q_iconst hx hb dX10_ruleTold_6 ?_
  refine q_iast hx hb hK hw (hs.2.2.1 21 rfl).2.1 1 (hs.2.2.1 21 rfl).2.2 rfl ⟨by decide, by decide⟩ (by omega) (by show _ < ((44 : Nat) : Int); omega) dX10_ruleTold_7 (fun H locs hw => ?_)
  obtain ⟨f_1, ef_1⟩ : ∃ g : Nat → va_E, g = aU f0 (ad 21) 6 (iI 0) := ⟨_, rfl⟩
  have t14_f_1 : fI f_1 a0 14 = fI f0 a0 14 := by rw [ef_1]; exact hs.fI_aU rfl _ _
  have t15_f_1 : fI f_1 a0 15 = fI f0 a0 15 := by rw [ef_1]; exact hs.fI_aU rfl _ _
  have t16_f_1 : fI f_1 a0 16 = fI f0 a0 16 := by rw [ef_1]; exact hs.fI_aU rfl _ _
  have t17_f_1 : fI f_1 a0 17 = fI f0 a0 17 := by rw [ef_1]; exact hs.fI_aU rfl _ _
  have t20_f_1 : fI f_1 a0 20 = fI f0 a0 20 := by rw [ef_1]; exact hs.fI_aU rfl _ _
  have hE := hE.trans (show Kp a0 ad [21] [15, 16, 17, 18, 19, 20] f0 f_1 by rw [ef_1]; exact Kp_aU hs rfl (by decide))
  have hs_ := hs
  have hs : MS cy L0 f_1 a0 ad := by rw [ef_1]; exact MS_aU hs rfl
  rw [← ef_1] at hw
  have c21_1_f_1 : aI f_1 (ad 21) 1 = aI f0 (ad 21) 1 := by rw [ef_1]; exact hs_.aI_nj rfl (by decide) (by decide) (by decide)
  have c21_2_f_1 : aI f_1 (ad 21) 2 = aI f0 (ad 21) 2 := by rw [ef_1]; exact hs_.aI_nj rfl (by decide) (by decide) (by decide)
  have c21_3_f_1 : aI f_1 (ad 21) 3 = aI f0 (ad 21) 3 := by rw [ef_1]; exact hs_.aI_nj rfl (by decide) (by decide) (by decide)
  have c21_4_f_1 : aI f_1 (ad 21) 4 = aI f0 (ad 21) 4 := by rw [ef_1]; exact hs_.aI_nj rfl (by decide) (by decide) (by decide)
  refine lv_aload_n hx hb dX10_ruleTold_8 rfl (lv_at hl 0 rfl) ?_
  refine q_getr (ci := 8) (C := RX10) (T := TX10) (N := 26) hx hb hts (fun w h => List.mem_cons_of_mem _ (mfX100 w h)) hown hK hw hs.1 hs.2.1 rfl 21 (by decide) (hts _ (List.mem_cons_of_mem _ (mr3 _ (List.mem_of_getElem? (i := 22) rfl)))) (fun _ h => h) rfl (hs.2.2.1 21 rfl).1 dX10_ruleTold_9 ?_
  refine q_bipush hx hb dX10_ruleTold_12 rfl ?_
  refine q_iconst hx hb dX10_ruleTold_14 ?_
  refine q_iast hx hb hK hw (hs.2.2.1 21 rfl).2.1 1 (hs.2.2.1 21 rfl).2.2 rfl ⟨by decide, by decide⟩ (by omega) (by show _ < ((44 : Nat) : Int); omega) dX10_ruleTold_15 (fun H locs hw => ?_)
  obtain ⟨f_2, ef_2⟩ : ∃ g : Nat → va_E, g = aU f_1 (ad 21) 7 (iI ((-1))) := ⟨_, rfl⟩
  have t14_f_2 : fI f_2 a0 14 = fI f_1 a0 14 := by rw [ef_2]; exact hs.fI_aU rfl _ _
  have t15_f_2 : fI f_2 a0 15 = fI f_1 a0 15 := by rw [ef_2]; exact hs.fI_aU rfl _ _
  have t16_f_2 : fI f_2 a0 16 = fI f_1 a0 16 := by rw [ef_2]; exact hs.fI_aU rfl _ _
  have t17_f_2 : fI f_2 a0 17 = fI f_1 a0 17 := by rw [ef_2]; exact hs.fI_aU rfl _ _
  have t20_f_2 : fI f_2 a0 20 = fI f_1 a0 20 := by rw [ef_2]; exact hs.fI_aU rfl _ _
  have hE := hE.trans (show Kp a0 ad [21] [15, 16, 17, 18, 19, 20] f_1 f_2 by rw [ef_2]; exact Kp_aU hs rfl (by decide))
  have hs_ := hs
  have hs : MS cy L0 f_2 a0 ad := by rw [ef_2]; exact MS_aU hs rfl
  rw [← ef_2] at hw
  have c21_1_f_2 : aI f_2 (ad 21) 1 = aI f_1 (ad 21) 1 := by rw [ef_2]; exact hs_.aI_nj rfl (by decide) (by decide) (by decide)
  have c21_2_f_2 : aI f_2 (ad 21) 2 = aI f_1 (ad 21) 2 := by rw [ef_2]; exact hs_.aI_nj rfl (by decide) (by decide) (by decide)
  have c21_3_f_2 : aI f_2 (ad 21) 3 = aI f_1 (ad 21) 3 := by rw [ef_2]; exact hs_.aI_nj rfl (by decide) (by decide) (by decide)
  have c21_4_f_2 : aI f_2 (ad 21) 4 = aI f_1 (ad 21) 4 := by rw [ef_2]; exact hs_.aI_nj rfl (by decide) (by decide) (by decide)
  refine lv_aload_n hx hb dX10_ruleTold_16 rfl (lv_at hl 0 rfl) ?_
  obtain ⟨t_3, v_t_3, h_t_3⟩ : ∃ q v : Nat, ∀ (A : Nat → Prop) (U : State) (H : Heap), Z A U H → vk_R RX10 167 "once" q U ∧ Tx [111, 110, 99, 101] q v A U H := ztx_25 zo
  obtain ⟨b_t_3, eb_t_3⟩ : ∃ b : List Int32, b = [111, 110, 99, 101] := ⟨_, rfl⟩
  have nb_t_3 : Asc b_t_3 := by rw [eb_t_3]; exact ⟨by decide, by decide +kernel⟩
  have tx_t_3 : ∀ (A : Nat → Prop) (U : State) (H : Heap), Z A U H → Tx b_t_3 t_3 v_t_3 A U H := fun A U H h => by rw [eb_t_3]; exact (h_t_3 A U H h).2
  refine va_ldcS hx hb hown (h_t_3 _ _ _ hZ).1 dX10_ruleTold_17 ?_
  refine q_call_i hA hK hw (va_runV (As := [.ref t_3]) (rest := []) ⟨hx, hb, hml, hown, hts⟩ (c_X10_isWord zo l D cy L0 f_2 a0 t_3 b_t_3 v_t_3 nb_t_3 tx_t_3 ad hs _) (cwV 1 hts (gT (inV (mr20 _ (List.mem_of_getElem? (i := 3) rfl)) (mr20 _ (List.mem_of_getElem? (i := 4) rfl)) (mr20 _ (List.mem_of_getElem? (i := 5) rfl)) (mr1 _ (List.mem_of_getElem? (i := 5) rfl)) (mr20 _ (List.mem_of_getElem? (i := 6) rfl)))) rfl rfl rfl (by decide +kernel) ⟨Nat.le_of_ble_eq_true rfl, Nat.le_of_ble_eq_true rfl⟩) (Wd.preV zo hA hZ hw hK hs.1 hs.2.1 rfl) rfl rfl hl.1 rfl (lv_room (Nat.le_of_ble_eq_true rfl)) dX10_ruleTold_19 ⟨Nat.le_of_ble_eq_true rfl, Nat.le_of_ble_eq_true rfl⟩) (fun x_4 L1 f1 H locs lx_4 ux_4 ex_4 hw => ?_)
  obtain ⟨rfl, rfl, ex_4⟩ := ex_4
  refine q_if_eq (tgt := 44) hx hb dX10_ruleTold_22 (by decide) ⟨lx_4, ux_4⟩ (fun c22 => ?_) (fun c22 => ?_)
  · refine lv_aload_n hx hb dX10_ruleTold_44 rfl (lv_at hl 0 rfl) ?_
    obtain ⟨t_5, v_t_5, h_t_5⟩ : ∃ q v : Nat, ∀ (A : Nat → Prop) (U : State) (H : Heap), Z A U H → vk_R RX10 169 "every" q U ∧ Tx [101, 118, 101, 114, 121] q v A U H := ztx_26 zo
    obtain ⟨b_t_5, eb_t_5⟩ : ∃ b : List Int32, b = [101, 118, 101, 114, 121] := ⟨_, rfl⟩
    have nb_t_5 : Asc b_t_5 := by rw [eb_t_5]; exact ⟨by decide, by decide +kernel⟩
    have tx_t_5 : ∀ (A : Nat → Prop) (U : State) (H : Heap), Z A U H → Tx b_t_5 t_5 v_t_5 A U H := fun A U H h => by rw [eb_t_5]; exact (h_t_5 A U H h).2
    refine va_ldcS hx hb hown (h_t_5 _ _ _ hZ).1 dX10_ruleTold_45 ?_
    refine q_call_v hA hK hw (va_runV (As := [.ref t_5]) (rest := []) ⟨hx, hb, hml, hown, hts⟩ (c_X10_must zo l D cy L0 f_2 a0 t_5 b_t_5 v_t_5 nb_t_5 tx_t_5 ad hs (by omega) (by omega) (by omega) (by omega) (by omega) (by omega) _) (cwV 1 hts (gT (inV (mr19 _ (List.mem_of_getElem? (i := 23) rfl)) (mr20 _ (List.mem_of_getElem? (i := 0) rfl)) (mr20 _ (List.mem_of_getElem? (i := 1) rfl)) (mr1 _ (List.mem_of_getElem? (i := 5) rfl)) (mr20 _ (List.mem_of_getElem? (i := 2) rfl)))) rfl rfl rfl (by decide +kernel) ⟨Nat.le_of_ble_eq_true rfl, Nat.le_of_ble_eq_true rfl⟩) (Wd.preV zo hA hZ hw hK hs.1 hs.2.1 rfl) rfl rfl hl.1 rfl (lv_room (Nat.le_of_ble_eq_true rfl)) dX10_ruleTold_47 ⟨Nat.le_of_ble_eq_true rfl, Nat.le_of_ble_eq_true rfl⟩) (fun L1 f_7 H locs ex_6 hw => ?_)
    obtain ⟨rfl, hs, hX, ex_6⟩ := ex_6
    have hE := hE.trans (hX.mono (rs' := [21]) (fs' := [15, 16, 17, 18, 19, 20]) (by decide) (by decide))
    have t14_f_7 : fI f_7 a0 14 = fI f_2 a0 14 := hX.2 14 (by decide)
    have c21_1_f_7 : aI f_7 (ad 21) 1 = aI f_2 (ad 21) 1 := hX.1 21 rfl (by decide) _
    have c21_2_f_7 : aI f_7 (ad 21) 2 = aI f_2 (ad 21) 2 := hX.1 21 rfl (by decide) _
    have c21_3_f_7 : aI f_7 (ad 21) 3 = aI f_2 (ad 21) 3 := hX.1 21 rfl (by decide) _
    have c21_4_f_7 : aI f_7 (ad 21) 4 = aI f_2 (ad 21) 4 := hX.1 21 rfl (by decide) _
    refine lv_aload_n hx hb dX10_ruleTold_50 rfl (lv_at hl 0 rfl) ?_
    refine q_getr (ci := 8) (C := RX10) (T := TX10) (N := 26) hx hb hts (fun w h => List.mem_cons_of_mem _ (mfX100 w h)) hown hK hw hs.1 hs.2.1 rfl 21 (by decide) (hts _ (List.mem_cons_of_mem _ (mr3 _ (List.mem_of_getElem? (i := 22) rfl)))) (fun _ h => h) rfl (hs.2.2.1 21 rfl).1 dX10_ruleTold_51 ?_
    refine q_iconst hx hb dX10_ruleTold_54 ?_
    refine lv_aload_n hx hb dX10_ruleTold_55 rfl (lv_at hl 0 rfl) ?_
    refine q_iconst hx hb dX10_ruleTold_56 ?_
    refine q_sipush hx hb dX10_ruleTold_57 rfl ?_
    refine q_call_i hA hK hw (va_runV (As := [.int (iI 1), .int (iI 999)]) (rest := [.int (iI 4), .ref (ad 21)]) ⟨hx, hb, hml, hown, hts⟩ (c_X10_numberTold zo l D cy L0 f_7 a0 1 (by decide) (by decide) 999 (by decide) (by decide) ad hs (by omega) (by omega) (by omega) (by omega) (by omega) (by omega) _) (cwV 2 hts (gT (inV (mr20 _ (List.mem_of_getElem? (i := 16) rfl)) (mr20 _ (List.mem_of_getElem? (i := 17) rfl)) (mr20 _ (List.mem_of_getElem? (i := 18) rfl)) (mr1 _ (List.mem_of_getElem? (i := 5) rfl)) (mr20 _ (List.mem_of_getElem? (i := 19) rfl)))) rfl rfl rfl (by decide +kernel) ⟨Nat.le_of_ble_eq_true rfl, Nat.le_of_ble_eq_true rfl⟩) (Wd.preV zo hA hZ hw hK hs.1 hs.2.1 rfl) rfl rfl hl.1 rfl (lv_room (Nat.le_of_ble_eq_true rfl)) dX10_ruleTold_60 ⟨Nat.le_of_ble_eq_true rfl, Nat.le_of_ble_eq_true rfl⟩) (fun x_8 L1 f_9 H locs lx_8 ux_8 ex_8 hw => ?_)
    obtain ⟨rfl, hs, hX, ex_8⟩ := ex_8
    have hE := hE.trans (hX.mono (rs' := [21]) (fs' := [15, 16, 17, 18, 19, 20]) (by decide) (by decide))
    have t14_f_9 : fI f_9 a0 14 = fI f_7 a0 14 := hX.2 14 (by decide)
    have c21_1_f_9 : aI f_9 (ad 21) 1 = aI f_7 (ad 21) 1 := hX.1 21 rfl (by decide) _
    have c21_2_f_9 : aI f_9 (ad 21) 2 = aI f_7 (ad 21) 2 := hX.1 21 rfl (by decide) _
    have c21_3_f_9 : aI f_9 (ad 21) 3 = aI f_7 (ad 21) 3 := hX.1 21 rfl (by decide) _
    have c21_4_f_9 : aI f_9 (ad 21) 4 = aI f_7 (ad 21) 4 := hX.1 21 rfl (by decide) _
    refine q_iast hx hb hK hw (hs.2.2.1 21 rfl).2.1 1 (hs.2.2.1 21 rfl).2.2 rfl ⟨by decide, by decide⟩ (by omega) (by show _ < ((44 : Nat) : Int); omega) dX10_ruleTold_63 (fun H locs hw => ?_)
    obtain ⟨f_10, ef_10⟩ : ∃ g : Nat → va_E, g = aU f_9 (ad 21) 4 (iI x_8) := ⟨_, rfl⟩
    have t14_f_10 : fI f_10 a0 14 = fI f_9 a0 14 := by rw [ef_10]; exact hs.fI_aU rfl _ _
    have t15_f_10 : fI f_10 a0 15 = fI f_9 a0 15 := by rw [ef_10]; exact hs.fI_aU rfl _ _
    have t16_f_10 : fI f_10 a0 16 = fI f_9 a0 16 := by rw [ef_10]; exact hs.fI_aU rfl _ _
    have t17_f_10 : fI f_10 a0 17 = fI f_9 a0 17 := by rw [ef_10]; exact hs.fI_aU rfl _ _
    have t20_f_10 : fI f_10 a0 20 = fI f_9 a0 20 := by rw [ef_10]; exact hs.fI_aU rfl _ _
    have hE := hE.trans (show Kp a0 ad [21] [15, 16, 17, 18, 19, 20] f_9 f_10 by rw [ef_10]; exact Kp_aU hs rfl (by decide))
    have hs_ := hs
    have hs : MS cy L0 f_10 a0 ad := by rw [ef_10]; exact MS_aU hs rfl
    rw [← ef_10] at hw
    have c21_1_f_10 : aI f_10 (ad 21) 1 = aI f_9 (ad 21) 1 := by rw [ef_10]; exact hs_.aI_nj rfl (by decide) (by decide) (by decide)
    have c21_2_f_10 : aI f_10 (ad 21) 2 = aI f_9 (ad 21) 2 := by rw [ef_10]; exact hs_.aI_nj rfl (by decide) (by decide) (by decide)
    have c21_3_f_10 : aI f_10 (ad 21) 3 = aI f_9 (ad 21) 3 := by rw [ef_10]; exact hs_.aI_nj rfl (by decide) (by decide) (by decide)
    have c21_4_f_10 : aI f_10 (ad 21) 4 = x_8 := by rw [ef_10]; exact hs_.aI_self rfl ⟨lx_8, ux_8⟩
    refine lv_aload_n hx hb dX10_ruleTold_64 rfl (lv_at hl 0 rfl) ?_
    obtain ⟨t_11, v_t_11, h_t_11⟩ : ∃ q v : Nat, ∀ (A : Nat → Prop) (U : State) (H : Heap), Z A U H → vk_R RX10 175 "days" q U ∧ Tx [100, 97, 121, 115] q v A U H := ztx_27 zo
    obtain ⟨b_t_11, eb_t_11⟩ : ∃ b : List Int32, b = [100, 97, 121, 115] := ⟨_, rfl⟩
    have nb_t_11 : Asc b_t_11 := by rw [eb_t_11]; exact ⟨by decide, by decide +kernel⟩
    have tx_t_11 : ∀ (A : Nat → Prop) (U : State) (H : Heap), Z A U H → Tx b_t_11 t_11 v_t_11 A U H := fun A U H h => by rw [eb_t_11]; exact (h_t_11 A U H h).2
    refine va_ldcS hx hb hown (h_t_11 _ _ _ hZ).1 dX10_ruleTold_65 ?_
    refine q_call_i hA hK hw (va_runV (As := [.ref t_11]) (rest := []) ⟨hx, hb, hml, hown, hts⟩ (c_X10_isWord zo l D cy L0 f_10 a0 t_11 b_t_11 v_t_11 nb_t_11 tx_t_11 ad hs _) (cwV 1 hts (gT (inV (mr20 _ (List.mem_of_getElem? (i := 3) rfl)) (mr20 _ (List.mem_of_getElem? (i := 4) rfl)) (mr20 _ (List.mem_of_getElem? (i := 5) rfl)) (mr1 _ (List.mem_of_getElem? (i := 5) rfl)) (mr20 _ (List.mem_of_getElem? (i := 6) rfl)))) rfl rfl rfl (by decide +kernel) ⟨Nat.le_of_ble_eq_true rfl, Nat.le_of_ble_eq_true rfl⟩) (Wd.preV zo hA hZ hw hK hs.1 hs.2.1 rfl) rfl rfl hl.1 rfl (lv_room (Nat.le_of_ble_eq_true rfl)) dX10_ruleTold_67 ⟨Nat.le_of_ble_eq_true rfl, Nat.le_of_ble_eq_true rfl⟩) (fun x_12 L1 f1 H locs lx_12 ux_12 ex_12 hw => ?_)
    obtain ⟨rfl, rfl, ex_12⟩ := ex_12
    refine q_if_eq (tgt := 87) hx hb dX10_ruleTold_70 (by decide) ⟨lx_12, ux_12⟩ (fun c70 => ?_) (fun c70 => ?_)
    · refine lv_aload_n hx hb dX10_ruleTold_87 rfl (lv_at hl 0 rfl) ?_
      obtain ⟨t_13, v_t_13, h_t_13⟩ : ∃ q v : Nat, ∀ (A : Nat → Prop) (U : State) (H : Heap), Z A U H → vk_R RX10 177 "weeks" q U ∧ Tx [119, 101, 101, 107, 115] q v A U H := ztx_28 zo
      obtain ⟨b_t_13, eb_t_13⟩ : ∃ b : List Int32, b = [119, 101, 101, 107, 115] := ⟨_, rfl⟩
      have nb_t_13 : Asc b_t_13 := by rw [eb_t_13]; exact ⟨by decide, by decide +kernel⟩
      have tx_t_13 : ∀ (A : Nat → Prop) (U : State) (H : Heap), Z A U H → Tx b_t_13 t_13 v_t_13 A U H := fun A U H h => by rw [eb_t_13]; exact (h_t_13 A U H h).2
      refine va_ldcS hx hb hown (h_t_13 _ _ _ hZ).1 dX10_ruleTold_88 ?_
      refine q_call_i hA hK hw (va_runV (As := [.ref t_13]) (rest := []) ⟨hx, hb, hml, hown, hts⟩ (c_X10_isWord zo l D cy L0 f_10 a0 t_13 b_t_13 v_t_13 nb_t_13 tx_t_13 ad hs _) (cwV 1 hts (gT (inV (mr20 _ (List.mem_of_getElem? (i := 3) rfl)) (mr20 _ (List.mem_of_getElem? (i := 4) rfl)) (mr20 _ (List.mem_of_getElem? (i := 5) rfl)) (mr1 _ (List.mem_of_getElem? (i := 5) rfl)) (mr20 _ (List.mem_of_getElem? (i := 6) rfl)))) rfl rfl rfl (by decide +kernel) ⟨Nat.le_of_ble_eq_true rfl, Nat.le_of_ble_eq_true rfl⟩) (Wd.preV zo hA hZ hw hK hs.1 hs.2.1 rfl) rfl rfl hl.1 rfl (lv_room (Nat.le_of_ble_eq_true rfl)) dX10_ruleTold_90 ⟨Nat.le_of_ble_eq_true rfl, Nat.le_of_ble_eq_true rfl⟩) (fun x_14 L1 f1 H locs lx_14 ux_14 ex_14 hw => ?_)
      obtain ⟨rfl, rfl, ex_14⟩ := ex_14
      refine q_if_eq (tgt := 107) hx hb dX10_ruleTold_93 (by decide) ⟨lx_14, ux_14⟩ (fun c93 => ?_) (fun c93 => ?_)
      · refine lv_aload_n hx hb dX10_ruleTold_107 rfl (lv_at hl 0 rfl) ?_
        obtain ⟨t_15, v_t_15, h_t_15⟩ : ∃ q v : Nat, ∀ (A : Nat → Prop) (U : State) (H : Heap), Z A U H → vk_R RX10 182 "months" q U ∧ Tx [109, 111, 110, 116, 104, 115] q v A U H := ztx_29 zo
        obtain ⟨b_t_15, eb_t_15⟩ : ∃ b : List Int32, b = [109, 111, 110, 116, 104, 115] := ⟨_, rfl⟩
        have nb_t_15 : Asc b_t_15 := by rw [eb_t_15]; exact ⟨by decide, by decide +kernel⟩
        have tx_t_15 : ∀ (A : Nat → Prop) (U : State) (H : Heap), Z A U H → Tx b_t_15 t_15 v_t_15 A U H := fun A U H h => by rw [eb_t_15]; exact (h_t_15 A U H h).2
        refine va_ldcS hx hb hown (h_t_15 _ _ _ hZ).1 dX10_ruleTold_108 ?_
        refine q_call_i hA hK hw (va_runV (As := [.ref t_15]) (rest := []) ⟨hx, hb, hml, hown, hts⟩ (c_X10_isWord zo l D cy L0 f_10 a0 t_15 b_t_15 v_t_15 nb_t_15 tx_t_15 ad hs _) (cwV 1 hts (gT (inV (mr20 _ (List.mem_of_getElem? (i := 3) rfl)) (mr20 _ (List.mem_of_getElem? (i := 4) rfl)) (mr20 _ (List.mem_of_getElem? (i := 5) rfl)) (mr1 _ (List.mem_of_getElem? (i := 5) rfl)) (mr20 _ (List.mem_of_getElem? (i := 6) rfl)))) rfl rfl rfl (by decide +kernel) ⟨Nat.le_of_ble_eq_true rfl, Nat.le_of_ble_eq_true rfl⟩) (Wd.preV zo hA hZ hw hK hs.1 hs.2.1 rfl) rfl rfl hl.1 rfl (lv_room (Nat.le_of_ble_eq_true rfl)) dX10_ruleTold_110 ⟨Nat.le_of_ble_eq_true rfl, Nat.le_of_ble_eq_true rfl⟩) (fun x_16 L1 f1 H locs lx_16 ux_16 ex_16 hw => ?_)
        obtain ⟨rfl, rfl, ex_16⟩ := ex_16
        refine q_if_eq (tgt := 127) hx hb dX10_ruleTold_113 (by decide) ⟨lx_16, ux_16⟩ (fun c113 => ?_) (fun c113 => ?_)
        · refine lv_aload_n hx hb dX10_ruleTold_127 rfl (lv_at hl 0 rfl) ?_
          obtain ⟨t_17, v_t_17, h_t_17⟩ : ∃ q v : Nat, ∀ (A : Nat → Prop) (U : State) (H : Heap), Z A U H → vk_R RX10 187 "years" q U ∧ Tx [121, 101, 97, 114, 115] q v A U H := ztx_30 zo
          obtain ⟨b_t_17, eb_t_17⟩ : ∃ b : List Int32, b = [121, 101, 97, 114, 115] := ⟨_, rfl⟩
          have nb_t_17 : Asc b_t_17 := by rw [eb_t_17]; exact ⟨by decide, by decide +kernel⟩
          have tx_t_17 : ∀ (A : Nat → Prop) (U : State) (H : Heap), Z A U H → Tx b_t_17 t_17 v_t_17 A U H := fun A U H h => by rw [eb_t_17]; exact (h_t_17 A U H h).2
          refine va_ldcS hx hb hown (h_t_17 _ _ _ hZ).1 dX10_ruleTold_128 ?_
          refine q_call_i hA hK hw (va_runV (As := [.ref t_17]) (rest := []) ⟨hx, hb, hml, hown, hts⟩ (c_X10_isWord zo l D cy L0 f_10 a0 t_17 b_t_17 v_t_17 nb_t_17 tx_t_17 ad hs _) (cwV 1 hts (gT (inV (mr20 _ (List.mem_of_getElem? (i := 3) rfl)) (mr20 _ (List.mem_of_getElem? (i := 4) rfl)) (mr20 _ (List.mem_of_getElem? (i := 5) rfl)) (mr1 _ (List.mem_of_getElem? (i := 5) rfl)) (mr20 _ (List.mem_of_getElem? (i := 6) rfl)))) rfl rfl rfl (by decide +kernel) ⟨Nat.le_of_ble_eq_true rfl, Nat.le_of_ble_eq_true rfl⟩) (Wd.preV zo hA hZ hw hK hs.1 hs.2.1 rfl) rfl rfl hl.1 rfl (lv_room (Nat.le_of_ble_eq_true rfl)) dX10_ruleTold_130 ⟨Nat.le_of_ble_eq_true rfl, Nat.le_of_ble_eq_true rfl⟩) (fun x_18 L1 f1 H locs lx_18 ux_18 ex_18 hw => ?_)
          obtain ⟨rfl, rfl, ex_18⟩ := ex_18
          refine q_if_eq (tgt := 151) hx hb dX10_ruleTold_133 (by decide) ⟨lx_18, ux_18⟩ (fun c133 => ?_) (fun c133 => ?_)
          · refine lv_aload_n hx hb dX10_ruleTold_151 rfl (lv_at hl 0 rfl) ?_
            refine q_iconst hx hb dX10_ruleTold_152 ?_
            refine q_call_v hA hK hw (va_runV (As := [.int (iI 1)]) (rest := []) ⟨hx, hb, hml, hown, hts⟩ (c_X10_wrong zo l D cy L0 f_10 a0 1 (by decide) (by decide) ad hs (by omega) (by omega) (by omega) (by omega) _) (cwV 1 hts (gT (inV (mr20 _ (List.mem_of_getElem? (i := 12) rfl)) (mr20 _ (List.mem_of_getElem? (i := 13) rfl)) (mr20 _ (List.mem_of_getElem? (i := 14) rfl)) (mr1 _ (List.mem_of_getElem? (i := 5) rfl)) (mr20 _ (List.mem_of_getElem? (i := 15) rfl)))) rfl rfl rfl (by decide +kernel) ⟨Nat.le_of_ble_eq_true rfl, Nat.le_of_ble_eq_true rfl⟩) (Wd.preV zo hA hZ hw hK hs.1 hs.2.1 rfl) rfl rfl hl.1 rfl (lv_room (Nat.le_of_ble_eq_true rfl)) dX10_ruleTold_153 ⟨Nat.le_of_ble_eq_true rfl, Nat.le_of_ble_eq_true rfl⟩) (fun L1 f_20 H locs ex_19 hw => ?_)
            obtain ⟨rfl, hs, hX, ex_19⟩ := ex_19
            have hE := hE.trans (hX.mono (rs' := [21]) (fs' := [15, 16, 17, 18, 19, 20]) (by decide) (by decide))
            have t14_f_20 : fI f_20 a0 14 = fI f_10 a0 14 := hX.2 14 (by decide)
            have t15_f_20 : fI f_20 a0 15 = fI f_10 a0 15 := hX.2 15 (by decide)
            have t16_f_20 : fI f_20 a0 16 = fI f_10 a0 16 := hX.2 16 (by decide)
            have t17_f_20 : fI f_20 a0 17 = fI f_10 a0 17 := hX.2 17 (by decide)
            have c21_1_f_20 : aI f_20 (ad 21) 1 = aI f_10 (ad 21) 1 := hX.1 21 rfl (by decide) _
            have c21_2_f_20 : aI f_20 (ad 21) 2 = aI f_10 (ad 21) 2 := hX.1 21 rfl (by decide) _
            have c21_3_f_20 : aI f_20 (ad 21) 3 = aI f_10 (ad 21) 3 := hX.1 21 rfl (by decide) _
            have c21_4_f_20 : aI f_20 (ad 21) 4 = aI f_10 (ad 21) 4 := hX.1 21 rfl (by decide) _
            exact q_ret_v hx hb hr hlocks hK hAe hw (Nat.le_of_ble_eq_true rfl) (Nat.le_of_ble_eq_true rfl) dX10_ruleTold_156 (by exact ⟨rfl, hs, hE, by first | trivial | omega⟩)
          · refine lv_aload_n hx hb dX10_ruleTold_136 rfl (lv_at hl 0 rfl) ?_
            refine q_call_v hA hK hw (va_runV (As := []) (rest := []) ⟨hx, hb, hml, hown, hts⟩ (c_X10_next zo l D cy L0 f_10 a0 ad hs (by omega) (by omega) (by omega) (by omega) (by omega) _) (cwV 0 hts (gT (inV (mr19 _ (List.mem_of_getElem? (i := 4) rfl)) (mr19 _ (List.mem_of_getElem? (i := 5) rfl)) (mr19 _ (List.mem_of_getElem? (i := 6) rfl)) (mr1 _ (List.mem_of_getElem? (i := 5) rfl)) (mr19 _ (List.mem_of_getElem? (i := 7) rfl)))) rfl rfl rfl (by decide +kernel) ⟨Nat.le_of_ble_eq_true rfl, Nat.le_of_ble_eq_true rfl⟩) (Wd.preV zo hA hZ hw hK hs.1 hs.2.1 rfl) rfl rfl hl.1 rfl (lv_room (Nat.le_of_ble_eq_true rfl)) dX10_ruleTold_137 ⟨Nat.le_of_ble_eq_true rfl, Nat.le_of_ble_eq_true rfl⟩) (fun L1 f_22 H locs ex_21 hw => ?_)
            obtain ⟨rfl, hs, hX, ex_21⟩ := ex_21
            have hE := hE.trans (hX.mono (rs' := [21]) (fs' := [15, 16, 17, 18, 19, 20]) (by decide) (by decide))
            have t14_f_22 : fI f_22 a0 14 = fI f_10 a0 14 := hX.2 14 (by decide)
            have t20_f_22 : fI f_22 a0 20 = fI f_10 a0 20 := hX.2 20 (by decide)
            have c21_1_f_22 : aI f_22 (ad 21) 1 = aI f_10 (ad 21) 1 := hX.1 21 rfl (by decide) _
            have c21_2_f_22 : aI f_22 (ad 21) 2 = aI f_10 (ad 21) 2 := hX.1 21 rfl (by decide) _
            have c21_3_f_22 : aI f_22 (ad 21) 3 = aI f_10 (ad 21) 3 := hX.1 21 rfl (by decide) _
            have c21_4_f_22 : aI f_22 (ad 21) 4 = aI f_10 (ad 21) 4 := hX.1 21 rfl (by decide) _
            refine lv_aload_n hx hb dX10_ruleTold_140 rfl (lv_at hl 0 rfl) ?_
            refine q_getr (ci := 8) (C := RX10) (T := TX10) (N := 26) hx hb hts (fun w h => List.mem_cons_of_mem _ (mfX100 w h)) hown hK hw hs.1 hs.2.1 rfl 21 (by decide) (hts _ (List.mem_cons_of_mem _ (mr3 _ (List.mem_of_getElem? (i := 22) rfl)))) (fun _ h => h) rfl (hs.2.2.1 21 rfl).1 dX10_ruleTold_141 ?_
            refine q_iconst hx hb dX10_ruleTold_144 ?_
            refine q_bipush hx hb dX10_ruleTold_145 rfl ?_
            refine q_iast hx hb hK hw (hs.2.2.1 21 rfl).2.1 1 (hs.2.2.1 21 rfl).2.2 rfl ⟨by decide, by decide⟩ (by omega) (by show _ < ((44 : Nat) : Int); omega) dX10_ruleTold_147 (fun H locs hw => ?_)
            obtain ⟨f_23, ef_23⟩ : ∃ g : Nat → va_E, g = aU f_22 (ad 21) 3 (iI 7) := ⟨_, rfl⟩
            have t14_f_23 : fI f_23 a0 14 = fI f_22 a0 14 := by rw [ef_23]; exact hs.fI_aU rfl _ _
            have t15_f_23 : fI f_23 a0 15 = fI f_22 a0 15 := by rw [ef_23]; exact hs.fI_aU rfl _ _
            have t16_f_23 : fI f_23 a0 16 = fI f_22 a0 16 := by rw [ef_23]; exact hs.fI_aU rfl _ _
            have t17_f_23 : fI f_23 a0 17 = fI f_22 a0 17 := by rw [ef_23]; exact hs.fI_aU rfl _ _
            have t20_f_23 : fI f_23 a0 20 = fI f_22 a0 20 := by rw [ef_23]; exact hs.fI_aU rfl _ _
            have hE := hE.trans (show Kp a0 ad [21] [15, 16, 17, 18, 19, 20] f_22 f_23 by rw [ef_23]; exact Kp_aU hs rfl (by decide))
            have hs_ := hs
            have hs : MS cy L0 f_23 a0 ad := by rw [ef_23]; exact MS_aU hs rfl
            rw [← ef_23] at hw
            have c21_1_f_23 : aI f_23 (ad 21) 1 = aI f_22 (ad 21) 1 := by rw [ef_23]; exact hs_.aI_nj rfl (by decide) (by decide) (by decide)
            have c21_2_f_23 : aI f_23 (ad 21) 2 = aI f_22 (ad 21) 2 := by rw [ef_23]; exact hs_.aI_nj rfl (by decide) (by decide) (by decide)
            have c21_3_f_23 : aI f_23 (ad 21) 3 = 7 := by rw [ef_23]; exact hs_.aI_self rfl ⟨by decide, by decide⟩
            have c21_4_f_23 : aI f_23 (ad 21) 4 = aI f_22 (ad 21) 4 := by rw [ef_23]; exact hs_.aI_nj rfl (by decide) (by decide) (by decide)
            refine lv_goto (tgt := 156) hx hb dX10_ruleTold_148 (by decide) ?_
            exact q_ret_v hx hb hr hlocks hK hAe hw (Nat.le_of_ble_eq_true rfl) (Nat.le_of_ble_eq_true rfl) dX10_ruleTold_156 (by exact ⟨rfl, hs, hE, by first | trivial | omega⟩)
        · refine lv_aload_n hx hb dX10_ruleTold_116 rfl (lv_at hl 0 rfl) ?_
          refine q_call_v hA hK hw (va_runV (As := []) (rest := []) ⟨hx, hb, hml, hown, hts⟩ (c_X10_next zo l D cy L0 f_10 a0 ad hs (by omega) (by omega) (by omega) (by omega) (by omega) _) (cwV 0 hts (gT (inV (mr19 _ (List.mem_of_getElem? (i := 4) rfl)) (mr19 _ (List.mem_of_getElem? (i := 5) rfl)) (mr19 _ (List.mem_of_getElem? (i := 6) rfl)) (mr1 _ (List.mem_of_getElem? (i := 5) rfl)) (mr19 _ (List.mem_of_getElem? (i := 7) rfl)))) rfl rfl rfl (by decide +kernel) ⟨Nat.le_of_ble_eq_true rfl, Nat.le_of_ble_eq_true rfl⟩) (Wd.preV zo hA hZ hw hK hs.1 hs.2.1 rfl) rfl rfl hl.1 rfl (lv_room (Nat.le_of_ble_eq_true rfl)) dX10_ruleTold_117 ⟨Nat.le_of_ble_eq_true rfl, Nat.le_of_ble_eq_true rfl⟩) (fun L1 f_25 H locs ex_24 hw => ?_)
          obtain ⟨rfl, hs, hX, ex_24⟩ := ex_24
          have hE := hE.trans (hX.mono (rs' := [21]) (fs' := [15, 16, 17, 18, 19, 20]) (by decide) (by decide))
          have t14_f_25 : fI f_25 a0 14 = fI f_10 a0 14 := hX.2 14 (by decide)
          have t20_f_25 : fI f_25 a0 20 = fI f_10 a0 20 := hX.2 20 (by decide)
          have c21_1_f_25 : aI f_25 (ad 21) 1 = aI f_10 (ad 21) 1 := hX.1 21 rfl (by decide) _
          have c21_2_f_25 : aI f_25 (ad 21) 2 = aI f_10 (ad 21) 2 := hX.1 21 rfl (by decide) _
          have c21_3_f_25 : aI f_25 (ad 21) 3 = aI f_10 (ad 21) 3 := hX.1 21 rfl (by decide) _
          have c21_4_f_25 : aI f_25 (ad 21) 4 = aI f_10 (ad 21) 4 := hX.1 21 rfl (by decide) _
          refine lv_aload_n hx hb dX10_ruleTold_120 rfl (lv_at hl 0 rfl) ?_
          refine q_call_v hA hK hw (va_runV (As := []) (rest := []) ⟨hx, hb, hml, hown, hts⟩ (c_X10_monthsTold zo l D cy L0 f_25 a0 ad hs (by omega) (by omega) (by omega) (by omega) (by omega) (by omega) _) (cwV 0 hts (gT (inV (mr21 _ (List.mem_of_getElem? (i := 8) rfl)) (mr21 _ (List.mem_of_getElem? (i := 9) rfl)) (mr21 _ (List.mem_of_getElem? (i := 10) rfl)) (mr1 _ (List.mem_of_getElem? (i := 5) rfl)) (mr21 _ (List.mem_of_getElem? (i := 11) rfl)))) rfl rfl rfl (by decide +kernel) ⟨Nat.le_of_ble_eq_true rfl, Nat.le_of_ble_eq_true rfl⟩) (Wd.preV zo hA hZ hw hK hs.1 hs.2.1 rfl) rfl rfl hl.1 rfl (lv_room (Nat.le_of_ble_eq_true rfl)) dX10_ruleTold_121 ⟨Nat.le_of_ble_eq_true rfl, Nat.le_of_ble_eq_true rfl⟩) (fun L1 f_27 H locs ex_26 hw => ?_)
          obtain ⟨rfl, hs, hX, ex_26⟩ := ex_26
          have hE := hE.trans (hX.mono (rs' := [21]) (fs' := [15, 16, 17, 18, 19, 20]) (by decide) (by decide))
          have t14_f_27 : fI f_27 a0 14 = fI f_25 a0 14 := hX.2 14 (by decide)
          refine lv_goto (tgt := 156) hx hb dX10_ruleTold_124 (by decide) ?_
          exact q_ret_v hx hb hr hlocks hK hAe hw (Nat.le_of_ble_eq_true rfl) (Nat.le_of_ble_eq_true rfl) dX10_ruleTold_156 (by exact ⟨rfl, hs, hE, by first | trivial | omega⟩)
      · refine lv_aload_n hx hb dX10_ruleTold_96 rfl (lv_at hl 0 rfl) ?_
        refine q_call_v hA hK hw (va_runV (As := []) (rest := []) ⟨hx, hb, hml, hown, hts⟩ (c_X10_next zo l D cy L0 f_10 a0 ad hs (by omega) (by omega) (by omega) (by omega) (by omega) _) (cwV 0 hts (gT (inV (mr19 _ (List.mem_of_getElem? (i := 4) rfl)) (mr19 _ (List.mem_of_getElem? (i := 5) rfl)) (mr19 _ (List.mem_of_getElem? (i := 6) rfl)) (mr1 _ (List.mem_of_getElem? (i := 5) rfl)) (mr19 _ (List.mem_of_getElem? (i := 7) rfl)))) rfl rfl rfl (by decide +kernel) ⟨Nat.le_of_ble_eq_true rfl, Nat.le_of_ble_eq_true rfl⟩) (Wd.preV zo hA hZ hw hK hs.1 hs.2.1 rfl) rfl rfl hl.1 rfl (lv_room (Nat.le_of_ble_eq_true rfl)) dX10_ruleTold_97 ⟨Nat.le_of_ble_eq_true rfl, Nat.le_of_ble_eq_true rfl⟩) (fun L1 f_29 H locs ex_28 hw => ?_)
        obtain ⟨rfl, hs, hX, ex_28⟩ := ex_28
        have hE := hE.trans (hX.mono (rs' := [21]) (fs' := [15, 16, 17, 18, 19, 20]) (by decide) (by decide))
        have t14_f_29 : fI f_29 a0 14 = fI f_10 a0 14 := hX.2 14 (by decide)
        have t20_f_29 : fI f_29 a0 20 = fI f_10 a0 20 := hX.2 20 (by decide)
        have c21_1_f_29 : aI f_29 (ad 21) 1 = aI f_10 (ad 21) 1 := hX.1 21 rfl (by decide) _
        have c21_2_f_29 : aI f_29 (ad 21) 2 = aI f_10 (ad 21) 2 := hX.1 21 rfl (by decide) _
        have c21_3_f_29 : aI f_29 (ad 21) 3 = aI f_10 (ad 21) 3 := hX.1 21 rfl (by decide) _
        have c21_4_f_29 : aI f_29 (ad 21) 4 = aI f_10 (ad 21) 4 := hX.1 21 rfl (by decide) _
        refine lv_aload_n hx hb dX10_ruleTold_100 rfl (lv_at hl 0 rfl) ?_
        refine q_call_v hA hK hw (va_runV (As := []) (rest := []) ⟨hx, hb, hml, hown, hts⟩ (c_X10_weeksTold zo l D cy L0 f_29 a0 ad hs (by omega) (by omega) (by omega) (by omega) (by omega) (by omega) _) (cwV 0 hts (gT (inV (mr21 _ (List.mem_of_getElem? (i := 0) rfl)) (mr21 _ (List.mem_of_getElem? (i := 1) rfl)) (mr21 _ (List.mem_of_getElem? (i := 2) rfl)) (mr1 _ (List.mem_of_getElem? (i := 5) rfl)) (mr21 _ (List.mem_of_getElem? (i := 3) rfl)))) rfl rfl rfl (by decide +kernel) ⟨Nat.le_of_ble_eq_true rfl, Nat.le_of_ble_eq_true rfl⟩) (Wd.preV zo hA hZ hw hK hs.1 hs.2.1 rfl) rfl rfl hl.1 rfl (lv_room (Nat.le_of_ble_eq_true rfl)) dX10_ruleTold_101 ⟨Nat.le_of_ble_eq_true rfl, Nat.le_of_ble_eq_true rfl⟩) (fun L1 f_31 H locs ex_30 hw => ?_)
        obtain ⟨rfl, hs, hX, ex_30⟩ := ex_30
        have hE := hE.trans (hX.mono (rs' := [21]) (fs' := [15, 16, 17, 18, 19, 20]) (by decide) (by decide))
        have t14_f_31 : fI f_31 a0 14 = fI f_29 a0 14 := hX.2 14 (by decide)
        refine lv_goto (tgt := 156) hx hb dX10_ruleTold_104 (by decide) ?_
        exact q_ret_v hx hb hr hlocks hK hAe hw (Nat.le_of_ble_eq_true rfl) (Nat.le_of_ble_eq_true rfl) dX10_ruleTold_156 (by exact ⟨rfl, hs, hE, by first | trivial | omega⟩)
    · refine lv_aload_n hx hb dX10_ruleTold_73 rfl (lv_at hl 0 rfl) ?_
      refine q_call_v hA hK hw (va_runV (As := []) (rest := []) ⟨hx, hb, hml, hown, hts⟩ (c_X10_next zo l D cy L0 f_10 a0 ad hs (by omega) (by omega) (by omega) (by omega) (by omega) _) (cwV 0 hts (gT (inV (mr19 _ (List.mem_of_getElem? (i := 4) rfl)) (mr19 _ (List.mem_of_getElem? (i := 5) rfl)) (mr19 _ (List.mem_of_getElem? (i := 6) rfl)) (mr1 _ (List.mem_of_getElem? (i := 5) rfl)) (mr19 _ (List.mem_of_getElem? (i := 7) rfl)))) rfl rfl rfl (by decide +kernel) ⟨Nat.le_of_ble_eq_true rfl, Nat.le_of_ble_eq_true rfl⟩) (Wd.preV zo hA hZ hw hK hs.1 hs.2.1 rfl) rfl rfl hl.1 rfl (lv_room (Nat.le_of_ble_eq_true rfl)) dX10_ruleTold_74 ⟨Nat.le_of_ble_eq_true rfl, Nat.le_of_ble_eq_true rfl⟩) (fun L1 f_33 H locs ex_32 hw => ?_)
      obtain ⟨rfl, hs, hX, ex_32⟩ := ex_32
      have hE := hE.trans (hX.mono (rs' := [21]) (fs' := [15, 16, 17, 18, 19, 20]) (by decide) (by decide))
      have t14_f_33 : fI f_33 a0 14 = fI f_10 a0 14 := hX.2 14 (by decide)
      have t20_f_33 : fI f_33 a0 20 = fI f_10 a0 20 := hX.2 20 (by decide)
      have c21_1_f_33 : aI f_33 (ad 21) 1 = aI f_10 (ad 21) 1 := hX.1 21 rfl (by decide) _
      have c21_2_f_33 : aI f_33 (ad 21) 2 = aI f_10 (ad 21) 2 := hX.1 21 rfl (by decide) _
      have c21_3_f_33 : aI f_33 (ad 21) 3 = aI f_10 (ad 21) 3 := hX.1 21 rfl (by decide) _
      have c21_4_f_33 : aI f_33 (ad 21) 4 = aI f_10 (ad 21) 4 := hX.1 21 rfl (by decide) _
      refine lv_aload_n hx hb dX10_ruleTold_77 rfl (lv_at hl 0 rfl) ?_
      refine q_getr (ci := 8) (C := RX10) (T := TX10) (N := 26) hx hb hts (fun w h => List.mem_cons_of_mem _ (mfX100 w h)) hown hK hw hs.1 hs.2.1 rfl 21 (by decide) (hts _ (List.mem_cons_of_mem _ (mr3 _ (List.mem_of_getElem? (i := 22) rfl)))) (fun _ h => h) rfl (hs.2.2.1 21 rfl).1 dX10_ruleTold_78 ?_
      refine q_iconst hx hb dX10_ruleTold_81 ?_
      refine q_iconst hx hb dX10_ruleTold_82 ?_
      refine q_iast hx hb hK hw (hs.2.2.1 21 rfl).2.1 1 (hs.2.2.1 21 rfl).2.2 rfl ⟨by decide, by decide⟩ (by omega) (by show _ < ((44 : Nat) : Int); omega) dX10_ruleTold_83 (fun H locs hw => ?_)
      obtain ⟨f_34, ef_34⟩ : ∃ g : Nat → va_E, g = aU f_33 (ad 21) 3 (iI 1) := ⟨_, rfl⟩
      have t14_f_34 : fI f_34 a0 14 = fI f_33 a0 14 := by rw [ef_34]; exact hs.fI_aU rfl _ _
      have t15_f_34 : fI f_34 a0 15 = fI f_33 a0 15 := by rw [ef_34]; exact hs.fI_aU rfl _ _
      have t16_f_34 : fI f_34 a0 16 = fI f_33 a0 16 := by rw [ef_34]; exact hs.fI_aU rfl _ _
      have t17_f_34 : fI f_34 a0 17 = fI f_33 a0 17 := by rw [ef_34]; exact hs.fI_aU rfl _ _
      have t20_f_34 : fI f_34 a0 20 = fI f_33 a0 20 := by rw [ef_34]; exact hs.fI_aU rfl _ _
      have hE := hE.trans (show Kp a0 ad [21] [15, 16, 17, 18, 19, 20] f_33 f_34 by rw [ef_34]; exact Kp_aU hs rfl (by decide))
      have hs_ := hs
      have hs : MS cy L0 f_34 a0 ad := by rw [ef_34]; exact MS_aU hs rfl
      rw [← ef_34] at hw
      have c21_1_f_34 : aI f_34 (ad 21) 1 = aI f_33 (ad 21) 1 := by rw [ef_34]; exact hs_.aI_nj rfl (by decide) (by decide) (by decide)
      have c21_2_f_34 : aI f_34 (ad 21) 2 = aI f_33 (ad 21) 2 := by rw [ef_34]; exact hs_.aI_nj rfl (by decide) (by decide) (by decide)
      have c21_3_f_34 : aI f_34 (ad 21) 3 = 1 := by rw [ef_34]; exact hs_.aI_self rfl ⟨by decide, by decide⟩
      have c21_4_f_34 : aI f_34 (ad 21) 4 = aI f_33 (ad 21) 4 := by rw [ef_34]; exact hs_.aI_nj rfl (by decide) (by decide) (by decide)
      refine lv_goto (tgt := 156) hx hb dX10_ruleTold_84 (by decide) ?_
      exact q_ret_v hx hb hr hlocks hK hAe hw (Nat.le_of_ble_eq_true rfl) (Nat.le_of_ble_eq_true rfl) dX10_ruleTold_156 (by exact ⟨rfl, hs, hE, by first | trivial | omega⟩)
  · refine lv_aload_n hx hb dX10_ruleTold_25 rfl (lv_at hl 0 rfl) ?_
    refine q_call_v hA hK hw (va_runV (As := []) (rest := []) ⟨hx, hb, hml, hown, hts⟩ (c_X10_next zo l D cy L0 f_2 a0 ad hs (by omega) (by omega) (by omega) (by omega) (by omega) _) (cwV 0 hts (gT (inV (mr19 _ (List.mem_of_getElem? (i := 4) rfl)) (mr19 _ (List.mem_of_getElem? (i := 5) rfl)) (mr19 _ (List.mem_of_getElem? (i := 6) rfl)) (mr1 _ (List.mem_of_getElem? (i := 5) rfl)) (mr19 _ (List.mem_of_getElem? (i := 7) rfl)))) rfl rfl rfl (by decide +kernel) ⟨Nat.le_of_ble_eq_true rfl, Nat.le_of_ble_eq_true rfl⟩) (Wd.preV zo hA hZ hw hK hs.1 hs.2.1 rfl) rfl rfl hl.1 rfl (lv_room (Nat.le_of_ble_eq_true rfl)) dX10_ruleTold_26 ⟨Nat.le_of_ble_eq_true rfl, Nat.le_of_ble_eq_true rfl⟩) (fun L1 f_36 H locs ex_35 hw => ?_)
    obtain ⟨rfl, hs, hX, ex_35⟩ := ex_35
    have hE := hE.trans (hX.mono (rs' := [21]) (fs' := [15, 16, 17, 18, 19, 20]) (by decide) (by decide))
    have t14_f_36 : fI f_36 a0 14 = fI f_2 a0 14 := hX.2 14 (by decide)
    have t20_f_36 : fI f_36 a0 20 = fI f_2 a0 20 := hX.2 20 (by decide)
    have c21_1_f_36 : aI f_36 (ad 21) 1 = aI f_2 (ad 21) 1 := hX.1 21 rfl (by decide) _
    have c21_2_f_36 : aI f_36 (ad 21) 2 = aI f_2 (ad 21) 2 := hX.1 21 rfl (by decide) _
    have c21_3_f_36 : aI f_36 (ad 21) 3 = aI f_2 (ad 21) 3 := hX.1 21 rfl (by decide) _
    have c21_4_f_36 : aI f_36 (ad 21) 4 = aI f_2 (ad 21) 4 := hX.1 21 rfl (by decide) _
    refine lv_aload_n hx hb dX10_ruleTold_29 rfl (lv_at hl 0 rfl) ?_
    refine q_getr (ci := 8) (C := RX10) (T := TX10) (N := 26) hx hb hts (fun w h => List.mem_cons_of_mem _ (mfX100 w h)) hown hK hw hs.1 hs.2.1 rfl 21 (by decide) (hts _ (List.mem_cons_of_mem _ (mr3 _ (List.mem_of_getElem? (i := 22) rfl)))) (fun _ h => h) rfl (hs.2.2.1 21 rfl).1 dX10_ruleTold_30 ?_
    refine q_iconst hx hb dX10_ruleTold_33 ?_
    refine q_iconst hx hb dX10_ruleTold_34 ?_
    refine q_iast hx hb hK hw (hs.2.2.1 21 rfl).2.1 1 (hs.2.2.1 21 rfl).2.2 rfl ⟨by decide, by decide⟩ (by omega) (by show _ < ((44 : Nat) : Int); omega) dX10_ruleTold_35 (fun H locs hw => ?_)
    obtain ⟨f_37, ef_37⟩ : ∃ g : Nat → va_E, g = aU f_36 (ad 21) 3 (iI 0) := ⟨_, rfl⟩
    have t14_f_37 : fI f_37 a0 14 = fI f_36 a0 14 := by rw [ef_37]; exact hs.fI_aU rfl _ _
    have t15_f_37 : fI f_37 a0 15 = fI f_36 a0 15 := by rw [ef_37]; exact hs.fI_aU rfl _ _
    have t16_f_37 : fI f_37 a0 16 = fI f_36 a0 16 := by rw [ef_37]; exact hs.fI_aU rfl _ _
    have t17_f_37 : fI f_37 a0 17 = fI f_36 a0 17 := by rw [ef_37]; exact hs.fI_aU rfl _ _
    have t20_f_37 : fI f_37 a0 20 = fI f_36 a0 20 := by rw [ef_37]; exact hs.fI_aU rfl _ _
    have hE := hE.trans (show Kp a0 ad [21] [15, 16, 17, 18, 19, 20] f_36 f_37 by rw [ef_37]; exact Kp_aU hs rfl (by decide))
    have hs_ := hs
    have hs : MS cy L0 f_37 a0 ad := by rw [ef_37]; exact MS_aU hs rfl
    rw [← ef_37] at hw
    have c21_1_f_37 : aI f_37 (ad 21) 1 = aI f_36 (ad 21) 1 := by rw [ef_37]; exact hs_.aI_nj rfl (by decide) (by decide) (by decide)
    have c21_2_f_37 : aI f_37 (ad 21) 2 = aI f_36 (ad 21) 2 := by rw [ef_37]; exact hs_.aI_nj rfl (by decide) (by decide) (by decide)
    have c21_3_f_37 : aI f_37 (ad 21) 3 = 0 := by rw [ef_37]; exact hs_.aI_self rfl ⟨by decide, by decide⟩
    have c21_4_f_37 : aI f_37 (ad 21) 4 = aI f_36 (ad 21) 4 := by rw [ef_37]; exact hs_.aI_nj rfl (by decide) (by decide) (by decide)
    refine lv_aload_n hx hb dX10_ruleTold_36 rfl (lv_at hl 0 rfl) ?_
    refine q_getr (ci := 8) (C := RX10) (T := TX10) (N := 26) hx hb hts (fun w h => List.mem_cons_of_mem _ (mfX100 w h)) hown hK hw hs.1 hs.2.1 rfl 21 (by decide) (hts _ (List.mem_cons_of_mem _ (mr3 _ (List.mem_of_getElem? (i := 22) rfl)))) (fun _ h => h) rfl (hs.2.2.1 21 rfl).1 dX10_ruleTold_37 ?_
    refine q_iconst hx hb dX10_ruleTold_40 ?_
    refine q_iconst hx hb dX10_ruleTold_41 ?_
    refine q_iast hx hb hK hw (hs.2.2.1 21 rfl).2.1 1 (hs.2.2.1 21 rfl).2.2 rfl ⟨by decide, by decide⟩ (by omega) (by show _ < ((44 : Nat) : Int); omega) dX10_ruleTold_42 (fun H locs hw => ?_)
    obtain ⟨f_38, ef_38⟩ : ∃ g : Nat → va_E, g = aU f_37 (ad 21) 4 (iI 0) := ⟨_, rfl⟩
    have t14_f_38 : fI f_38 a0 14 = fI f_37 a0 14 := by rw [ef_38]; exact hs.fI_aU rfl _ _
    have t15_f_38 : fI f_38 a0 15 = fI f_37 a0 15 := by rw [ef_38]; exact hs.fI_aU rfl _ _
    have t16_f_38 : fI f_38 a0 16 = fI f_37 a0 16 := by rw [ef_38]; exact hs.fI_aU rfl _ _
    have t17_f_38 : fI f_38 a0 17 = fI f_37 a0 17 := by rw [ef_38]; exact hs.fI_aU rfl _ _
    have t20_f_38 : fI f_38 a0 20 = fI f_37 a0 20 := by rw [ef_38]; exact hs.fI_aU rfl _ _
    have hE := hE.trans (show Kp a0 ad [21] [15, 16, 17, 18, 19, 20] f_37 f_38 by rw [ef_38]; exact Kp_aU hs rfl (by decide))
    have hs_ := hs
    have hs : MS cy L0 f_38 a0 ad := by rw [ef_38]; exact MS_aU hs rfl
    rw [← ef_38] at hw
    have c21_1_f_38 : aI f_38 (ad 21) 1 = aI f_37 (ad 21) 1 := by rw [ef_38]; exact hs_.aI_nj rfl (by decide) (by decide) (by decide)
    have c21_2_f_38 : aI f_38 (ad 21) 2 = aI f_37 (ad 21) 2 := by rw [ef_38]; exact hs_.aI_nj rfl (by decide) (by decide) (by decide)
    have c21_3_f_38 : aI f_38 (ad 21) 3 = aI f_37 (ad 21) 3 := by rw [ef_38]; exact hs_.aI_nj rfl (by decide) (by decide) (by decide)
    have c21_4_f_38 : aI f_38 (ad 21) 4 = 0 := by rw [ef_38]; exact hs_.aI_self rfl ⟨by decide, by decide⟩
    exact q_ret_v hx hb hr hlocks hK hAe hw (Nat.le_of_ble_eq_true rfl) (Nat.le_of_ble_eq_true rfl) dX10_ruleTold_43 (by exact ⟨rfl, hs, hE, by first | trivial | omega⟩)
set_option maxHeartbeats 4000000 in
set_option maxRecDepth 100000 in
theorem c_X10_endTold {Z : Zt} (zo : Zok Z) (l : Launch) (D : va_G) (cy : Cy) (L0 : List Nat) (f0 : Nat → va_E) (a0 : Nat) (ad : Nat → Nat) (hs : MS cy L0 f0 a0 ad) (p1 : 0 ≤ fI f0 a0 15) (p2 : fI f0 a0 15 ≤ 168) (p3 : 0 ≤ fI f0 a0 16) (p4 : fI f0 a0 16 ≤ 168) (p5 : fI f0 a0 14 ≤ 168) (p6 : 0 ≤ fI f0 a0 20) (hd : DT f0 ad 36525) : Cv Z l yX10_endTold (Cond.code yX10_endTold cX10_endTold 1 none :: TB) ({ frames := 6, cells := 0, slots := 0, locals := 129 } : Room) 0 0 D (tq cy) [.ref a0] L0 f0 (fun (L1 : List Nat) (f1 : Nat → va_E) => L0 = L1 ∧ MS cy L0 f1 a0 ad ∧ Kp a0 ad [21] [15, 16, 17, 18, 19, 20, 22] f0 f1 ∧ (0 ≤ fI f1 a0 15 ∧ fI f1 a0 15 ≤ 168 ∧ 0 ≤ fI f1 a0 16 ∧ fI f1 a0 16 ≤ 168 ∧ 0 ≤ fI f1 a0 20 ∧ (fI f1 a0 20 = 0 → fI f0 a0 20 = 0) ∧ (fI f1 a0 20 = 0 → -1 ≤ aI f1 (ad 21) 8 ∧ aI f1 (ad 21) 8 ≤ 36524 ∧ (aI f1 (ad 21) 8 = -1 ∨ aI f1 (ad 21) 5 ≤ aI f1 (ad 21) 8)) ∧ aI f1 (ad 21) 1 = aI f0 (ad 21) 1 ∧ aI f1 (ad 21) 2 = aI f0 (ad 21) 2 ∧ aI f1 (ad 21) 3 = aI f0 (ad 21) 3 ∧ aI f1 (ad 21) 4 = aI f0 (ad 21) 4 ∧ aI f1 (ad 21) 5 = aI f0 (ad 21) 5)) := by
  refine Cv.enter (cc := cX10_endTold) (n := 1) rfl (plainFor_of_name (by decide)) (Nat.le_of_ble_eq_true rfl) ?_
  intro p e s m below meth c ls A hx hb hr hts hown hlocks hnm hml hK hA hAe hw hZ hl
  have hown : s.vm.findClass RX10 = some m.cls := hown
  have hl : lv_has ls 1 [(0, .ref a0)] := hl
  have hN : ZN s := (zo.2.2.2.2 _ _ _ hZ).2
  have hE : Kp a0 ad [21] [15, 16, 17, 18, 19, 20, 22] f0 f0 := Kp.refl _ _ _ _ _
  refine lv_aload_n hx hb dX10_endTold_0 rfl (lv_at hl 0 rfl) ?_
  refine q_getr (ci := 8) (C := RX10) (T := TX10) (N := 26) hx hb hts (fun w h => List.mem_cons_of_mem _ (mfX100 w h)) hown hK hw hs.1 hs.2.1 rfl 21 (by decide) (hts _ (List.mem_cons_of_mem _ (mr3 _ (List.mem_of_getElem? (i := 22) rfl)))) (fun _ h => h) rfl (hs.2.2.1 21 rfl).1 dX10_endTold_1 ?_
  refine q_bipush hx hb dX10_endTold_4 rfl ?_
  refine q_iconst hx hb dX10_endTold_6 ?_
  refine q_iast hx hb hK hw (hs.2.2.1 21 rfl).2.1 1 (hs.2.2.1 21 rfl).2.2 rfl ⟨by decide, by decide⟩ (by omega) (by show _ < ((44 : Nat) : Int); omega) dX10_endTold_7 (fun H locs hw => ?_)
  obtain ⟨f_1, ef_1⟩ : ∃ g : Nat → va_E, g = aU f0 (ad 21) 8 (iI ((-1))) := ⟨_, rfl⟩
  have t14_f_1 : fI f_1 a0 14 = fI f0 a0 14 := by rw [ef_1]; exact hs.fI_aU rfl _ _
  have t15_f_1 : fI f_1 a0 15 = fI f0 a0 15 := by rw [ef_1]; exact hs.fI_aU rfl _ _
  have t16_f_1 : fI f_1 a0 16 = fI f0 a0 16 := by rw [ef_1]; exact hs.fI_aU rfl _ _
  have t17_f_1 : fI f_1 a0 17 = fI f0 a0 17 := by rw [ef_1]; exact hs.fI_aU rfl _ _
  have t20_f_1 : fI f_1 a0 20 = fI f0 a0 20 := by rw [ef_1]; exact hs.fI_aU rfl _ _
  have t22_f_1 : fI f_1 a0 22 = fI f0 a0 22 := by rw [ef_1]; exact hs.fI_aU rfl _ _
  have hE := hE.trans (show Kp a0 ad [21] [15, 16, 17, 18, 19, 20, 22] f0 f_1 by rw [ef_1]; exact Kp_aU hs rfl (by decide))
  have hs_ := hs
  have hs : MS cy L0 f_1 a0 ad := by rw [ef_1]; exact MS_aU hs rfl
  rw [← ef_1] at hw
  have c21_1_f_1 : aI f_1 (ad 21) 1 = aI f0 (ad 21) 1 := by rw [ef_1]; exact hs_.aI_nj rfl (by decide) (by decide) (by decide)
  have c21_2_f_1 : aI f_1 (ad 21) 2 = aI f0 (ad 21) 2 := by rw [ef_1]; exact hs_.aI_nj rfl (by decide) (by decide) (by decide)
  have c21_3_f_1 : aI f_1 (ad 21) 3 = aI f0 (ad 21) 3 := by rw [ef_1]; exact hs_.aI_nj rfl (by decide) (by decide) (by decide)
  have c21_4_f_1 : aI f_1 (ad 21) 4 = aI f0 (ad 21) 4 := by rw [ef_1]; exact hs_.aI_nj rfl (by decide) (by decide) (by decide)
  have c21_5_f_1 : aI f_1 (ad 21) 5 = aI f0 (ad 21) 5 := by rw [ef_1]; exact hs_.aI_nj rfl (by decide) (by decide) (by decide)
  have c21_8_f_1 : aI f_1 (ad 21) 8 = ((-1)) := by rw [ef_1]; exact hs_.aI_self rfl ⟨by decide, by decide⟩
  refine lv_aload_n hx hb dX10_endTold_8 rfl (lv_at hl 0 rfl) ?_
  refine q_getr (ci := 8) (C := RX10) (T := TX10) (N := 26) hx hb hts (fun w h => List.mem_cons_of_mem _ (mfX100 w h)) hown hK hw hs.1 hs.2.1 rfl 21 (by decide) (hts _ (List.mem_cons_of_mem _ (mr3 _ (List.mem_of_getElem? (i := 22) rfl)))) (fun _ h => h) rfl (hs.2.2.1 21 rfl).1 dX10_endTold_9 ?_
  refine q_bipush hx hb dX10_endTold_12 rfl ?_
  refine q_iconst hx hb dX10_endTold_14 ?_
  refine q_iast hx hb hK hw (hs.2.2.1 21 rfl).2.1 1 (hs.2.2.1 21 rfl).2.2 rfl ⟨by decide, by decide⟩ (by omega) (by show _ < ((44 : Nat) : Int); omega) dX10_endTold_15 (fun H locs hw => ?_)
  obtain ⟨f_2, ef_2⟩ : ∃ g : Nat → va_E, g = aU f_1 (ad 21) 9 (iI ((-1))) := ⟨_, rfl⟩
  have t14_f_2 : fI f_2 a0 14 = fI f_1 a0 14 := by rw [ef_2]; exact hs.fI_aU rfl _ _
  have t15_f_2 : fI f_2 a0 15 = fI f_1 a0 15 := by rw [ef_2]; exact hs.fI_aU rfl _ _
  have t16_f_2 : fI f_2 a0 16 = fI f_1 a0 16 := by rw [ef_2]; exact hs.fI_aU rfl _ _
  have t17_f_2 : fI f_2 a0 17 = fI f_1 a0 17 := by rw [ef_2]; exact hs.fI_aU rfl _ _
  have t20_f_2 : fI f_2 a0 20 = fI f_1 a0 20 := by rw [ef_2]; exact hs.fI_aU rfl _ _
  have t22_f_2 : fI f_2 a0 22 = fI f_1 a0 22 := by rw [ef_2]; exact hs.fI_aU rfl _ _
  have hE := hE.trans (show Kp a0 ad [21] [15, 16, 17, 18, 19, 20, 22] f_1 f_2 by rw [ef_2]; exact Kp_aU hs rfl (by decide))
  have hs_ := hs
  have hs : MS cy L0 f_2 a0 ad := by rw [ef_2]; exact MS_aU hs rfl
  rw [← ef_2] at hw
  have c21_1_f_2 : aI f_2 (ad 21) 1 = aI f_1 (ad 21) 1 := by rw [ef_2]; exact hs_.aI_nj rfl (by decide) (by decide) (by decide)
  have c21_2_f_2 : aI f_2 (ad 21) 2 = aI f_1 (ad 21) 2 := by rw [ef_2]; exact hs_.aI_nj rfl (by decide) (by decide) (by decide)
  have c21_3_f_2 : aI f_2 (ad 21) 3 = aI f_1 (ad 21) 3 := by rw [ef_2]; exact hs_.aI_nj rfl (by decide) (by decide) (by decide)
  have c21_4_f_2 : aI f_2 (ad 21) 4 = aI f_1 (ad 21) 4 := by rw [ef_2]; exact hs_.aI_nj rfl (by decide) (by decide) (by decide)
  have c21_5_f_2 : aI f_2 (ad 21) 5 = aI f_1 (ad 21) 5 := by rw [ef_2]; exact hs_.aI_nj rfl (by decide) (by decide) (by decide)
  have c21_8_f_2 : aI f_2 (ad 21) 8 = aI f_1 (ad 21) 8 := by rw [ef_2]; exact hs_.aI_nj rfl (by decide) (by decide) (by decide)
  refine lv_aload_n hx hb dX10_endTold_16 rfl (lv_at hl 0 rfl) ?_
  obtain ⟨t_3, v_t_3, h_t_3⟩ : ∃ q v : Nat, ∀ (A : Nat → Prop) (U : State) (H : Heap), Z A U H → vk_R RX10 200 "until" q U ∧ Tx [117, 110, 116, 105, 108] q v A U H := ztx_35 zo
  obtain ⟨b_t_3, eb_t_3⟩ : ∃ b : List Int32, b = [117, 110, 116, 105, 108] := ⟨_, rfl⟩
  have nb_t_3 : Asc b_t_3 := by rw [eb_t_3]; exact ⟨by decide, by decide +kernel⟩
  have tx_t_3 : ∀ (A : Nat → Prop) (U : State) (H : Heap), Z A U H → Tx b_t_3 t_3 v_t_3 A U H := fun A U H h => by rw [eb_t_3]; exact (h_t_3 A U H h).2
  refine va_ldcS hx hb hown (h_t_3 _ _ _ hZ).1 dX10_endTold_17 ?_
  refine q_call_i hA hK hw (va_runV (As := [.ref t_3]) (rest := []) ⟨hx, hb, hml, hown, hts⟩ (c_X10_isWord zo l D cy L0 f_2 a0 t_3 b_t_3 v_t_3 nb_t_3 tx_t_3 ad hs _) (cwV 1 hts (gT (inV (mr20 _ (List.mem_of_getElem? (i := 3) rfl)) (mr20 _ (List.mem_of_getElem? (i := 4) rfl)) (mr20 _ (List.mem_of_getElem? (i := 5) rfl)) (mr1 _ (List.mem_of_getElem? (i := 5) rfl)) (mr20 _ (List.mem_of_getElem? (i := 6) rfl)))) rfl rfl rfl (by decide +kernel) ⟨Nat.le_of_ble_eq_true rfl, Nat.le_of_ble_eq_true rfl⟩) (Wd.preV zo hA hZ hw hK hs.1 hs.2.1 rfl) rfl rfl hl.1 rfl (lv_room (Nat.le_of_ble_eq_true rfl)) dX10_endTold_19 ⟨Nat.le_of_ble_eq_true rfl, Nat.le_of_ble_eq_true rfl⟩) (fun x_4 L1 f1 H locs lx_4 ux_4 ex_4 hw => ?_)
  obtain ⟨rfl, rfl, ex_4⟩ := ex_4
  have J107 : ∀ (L : List Nat) (fw107 : Nat → va_E) (hs : MS cy L0 fw107 a0 ad) (hE : Kp a0 ad [21] [15, 16, 17, 18, 19, 20, 22] f0 fw107) (j1 : 0 ≤ fI fw107 a0 16) (j2 : fI fw107 a0 16 ≤ 168) (j3 : 0 ≤ fI fw107 a0 15) (j4 : fI fw107 a0 15 ≤ 168) (j5 : fI fw107 a0 14 ≤ 168) (k1 : 0 ≤ fI fw107 a0 20) (k2 : fI fw107 a0 20 = 0 → fI f0 a0 20 = 0) (z1 : aI fw107 (ad 21) 1 = aI f0 (ad 21) 1) (z2 : aI fw107 (ad 21) 2 = aI f0 (ad 21) 2) (z3 : aI fw107 (ad 21) 3 = aI f0 (ad 21) 3) (z4 : aI fw107 (ad 21) 4 = aI f0 (ad 21) 4) (z5 : aI fw107 (ad 21) 5 = aI f0 (ad 21) 5) (k9 : (fI fw107 a0 20 = 0 → -1 ≤ aI fw107 (ad 21) 8 ∧ aI fw107 (ad 21) 8 ≤ 36524 ∧ (aI fw107 (ad 21) 8 = -1 ∨ aI fw107 (ad 21) 5 ≤ aI fw107 (ad 21) 8))) (H : Heap) (locs : List Loc) (ls : Array Slot) (hw : Wd D A s.heap L0 fw107 H locs) (hl : lv_has ls 1 [(0, .ref a0)]), W p l e ({ frames := 6, cells := 0, slots := 0, locals := 129 } : Room) s m ([.ref a0] : List Value).toArray below meth c H locs (0 + 0) (0 + 0) (MQ below (Qv D (tq cy) L0 f0 s.heap.size (fun (L1 : List Nat) (f1 : Nat → va_E) => L0 = L1 ∧ MS cy L0 f1 a0 ad ∧ Kp a0 ad [21] [15, 16, 17, 18, 19, 20, 22] f0 f1 ∧ (0 ≤ fI f1 a0 15 ∧ fI f1 a0 15 ≤ 168 ∧ 0 ≤ fI f1 a0 16 ∧ fI f1 a0 16 ≤ 168 ∧ 0 ≤ fI f1 a0 20 ∧ (fI f1 a0 20 = 0 → fI f0 a0 20 = 0) ∧ (fI f1 a0 20 = 0 → -1 ≤ aI f1 (ad 21) 8 ∧ aI f1 (ad 21) 8 ≤ 36524 ∧ (aI f1 (ad 21) 8 = -1 ∨ aI f1 (ad 21) 5 ≤ aI f1 (ad 21) 8)) ∧ aI f1 (ad 21) 1 = aI f0 (ad 21) 1 ∧ aI f1 (ad 21) 2 = aI f0 (ad 21) 2 ∧ aI f1 (ad 21) 3 = aI f0 (ad 21) 3 ∧ aI f1 (ad 21) 4 = aI f0 (ad 21) 4 ∧ aI f1 (ad 21) 5 = aI f0 (ad 21) 5))) ([.ref a0] : List Value).toArray s 0 0 A) (F0 m 107 ls []) := by
    intro L fw107 hs hE j1 j2 j3 j4 j5 k1 k2 z1 z2 z3 z4 z5 k9 H locs ls hw hl
    refine lv_aload_n hx hb dX10_endTold_107 rfl (lv_at hl 0 rfl) ?_
    refine q_geti (ci := 8) (C := RX10) (T := TX10) (N := 26) hx hb hts (fun w h => List.mem_cons_of_mem _ (mfX100 w h)) hown hK hw hs.1 hs.2.1 rfl 20 (by decide) (hts _ (List.mem_cons_of_mem _ (mr19 _ (List.mem_of_getElem? (i := 2) rfl)))) (fun _ h => h) rfl dX10_endTold_108 (fun x_5 lx_5 ux_5 ex_5 => ?_)
    refine q_if_ne (tgt := 126) hx hb dX10_endTold_111 (by decide) ⟨lx_5, ux_5⟩ (fun c111 => ?_) (fun c111 => ?_)
    · exact q_ret_v hx hb hr hlocks hK hAe hw (Nat.le_of_ble_eq_true rfl) (Nat.le_of_ble_eq_true rfl) dX10_endTold_126 (by exact ⟨rfl, hs, hE, by first | trivial | omega⟩)
    · refine lv_aload_n hx hb dX10_endTold_114 rfl (lv_at hl 0 rfl) ?_
      refine q_geti (ci := 8) (C := RX10) (T := TX10) (N := 26) hx hb hts (fun w h => List.mem_cons_of_mem _ (mfX100 w h)) hown hK hw hs.1 hs.2.1 rfl 17 (by decide) (hts _ (List.mem_cons_of_mem _ (mr19 _ (List.mem_of_getElem? (i := 9) rfl)))) (fun _ h => h) rfl dX10_endTold_115 (fun x_6 lx_6 ux_6 ex_6 => ?_)
      refine q_if_eq (tgt := 126) hx hb dX10_endTold_118 (by decide) ⟨lx_6, ux_6⟩ (fun c118 => ?_) (fun c118 => ?_)
      · exact q_ret_v hx hb hr hlocks hK hAe hw (Nat.le_of_ble_eq_true rfl) (Nat.le_of_ble_eq_true rfl) dX10_endTold_126 (by exact ⟨rfl, hs, hE, by first | trivial | omega⟩)
      · refine lv_aload_n hx hb dX10_endTold_121 rfl (lv_at hl 0 rfl) ?_
        refine q_iconst hx hb dX10_endTold_122 ?_
        refine q_call_v hA hK hw (va_runV (As := [.int (iI 1)]) (rest := []) ⟨hx, hb, hml, hown, hts⟩ (c_X10_wrong zo l D cy L0 fw107 a0 1 (by decide) (by decide) ad hs (by omega) (by omega) (by omega) (by omega) _) (cwV 1 hts (gT (inV (mr20 _ (List.mem_of_getElem? (i := 12) rfl)) (mr20 _ (List.mem_of_getElem? (i := 13) rfl)) (mr20 _ (List.mem_of_getElem? (i := 14) rfl)) (mr1 _ (List.mem_of_getElem? (i := 5) rfl)) (mr20 _ (List.mem_of_getElem? (i := 15) rfl)))) rfl rfl rfl (by decide +kernel) ⟨Nat.le_of_ble_eq_true rfl, Nat.le_of_ble_eq_true rfl⟩) (Wd.preV zo hA hZ hw hK hs.1 hs.2.1 rfl) rfl rfl hl.1 rfl (lv_room (Nat.le_of_ble_eq_true rfl)) dX10_endTold_123 ⟨Nat.le_of_ble_eq_true rfl, Nat.le_of_ble_eq_true rfl⟩) (fun L1 f_8 H locs ex_7 hw => ?_)
        obtain ⟨rfl, hs, hX, ex_7⟩ := ex_7
        have hE := hE.trans (hX.mono (rs' := [21]) (fs' := [15, 16, 17, 18, 19, 20, 22]) (by decide) (by decide))
        have t14_f_8 : fI f_8 a0 14 = fI fw107 a0 14 := hX.2 14 (by decide)
        have t15_f_8 : fI f_8 a0 15 = fI fw107 a0 15 := hX.2 15 (by decide)
        have t16_f_8 : fI f_8 a0 16 = fI fw107 a0 16 := hX.2 16 (by decide)
        have t17_f_8 : fI f_8 a0 17 = fI fw107 a0 17 := hX.2 17 (by decide)
        have t22_f_8 : fI f_8 a0 22 = fI fw107 a0 22 := hX.2 22 (by decide)
        have c21_1_f_8 : aI f_8 (ad 21) 1 = aI fw107 (ad 21) 1 := hX.1 21 rfl (by decide) _
        have c21_2_f_8 : aI f_8 (ad 21) 2 = aI fw107 (ad 21) 2 := hX.1 21 rfl (by decide) _
        have c21_3_f_8 : aI f_8 (ad 21) 3 = aI fw107 (ad 21) 3 := hX.1 21 rfl (by decide) _
        have c21_4_f_8 : aI f_8 (ad 21) 4 = aI fw107 (ad 21) 4 := hX.1 21 rfl (by decide) _
        have c21_5_f_8 : aI f_8 (ad 21) 5 = aI fw107 (ad 21) 5 := hX.1 21 rfl (by decide) _
        have c21_8_f_8 : aI f_8 (ad 21) 8 = aI fw107 (ad 21) 8 := hX.1 21 rfl (by decide) _
        exact q_ret_v hx hb hr hlocks hK hAe hw (Nat.le_of_ble_eq_true rfl) (Nat.le_of_ble_eq_true rfl) dX10_endTold_126 (by exact ⟨rfl, hs, hE, by first | trivial | omega⟩)
  refine q_if_eq (tgt := 79) hx hb dX10_endTold_22 (by decide) ⟨lx_4, ux_4⟩ (fun c22 => ?_) (fun c22 => ?_)
  · refine lv_aload_n hx hb dX10_endTold_79 rfl (lv_at hl 0 rfl) ?_
    obtain ⟨t_9, v_t_9, h_t_9⟩ : ∃ q v : Nat, ∀ (A : Nat → Prop) (U : State) (H : Heap), Z A U H → vk_R RX10 205 "times" q U ∧ Tx [116, 105, 109, 101, 115] q v A U H := ztx_36 zo
    obtain ⟨b_t_9, eb_t_9⟩ : ∃ b : List Int32, b = [116, 105, 109, 101, 115] := ⟨_, rfl⟩
    have nb_t_9 : Asc b_t_9 := by rw [eb_t_9]; exact ⟨by decide, by decide +kernel⟩
    have tx_t_9 : ∀ (A : Nat → Prop) (U : State) (H : Heap), Z A U H → Tx b_t_9 t_9 v_t_9 A U H := fun A U H h => by rw [eb_t_9]; exact (h_t_9 A U H h).2
    refine va_ldcS hx hb hown (h_t_9 _ _ _ hZ).1 dX10_endTold_80 ?_
    refine q_call_i hA hK hw (va_runV (As := [.ref t_9]) (rest := []) ⟨hx, hb, hml, hown, hts⟩ (c_X10_isWord zo l D cy L0 f_2 a0 t_9 b_t_9 v_t_9 nb_t_9 tx_t_9 ad hs _) (cwV 1 hts (gT (inV (mr20 _ (List.mem_of_getElem? (i := 3) rfl)) (mr20 _ (List.mem_of_getElem? (i := 4) rfl)) (mr20 _ (List.mem_of_getElem? (i := 5) rfl)) (mr1 _ (List.mem_of_getElem? (i := 5) rfl)) (mr20 _ (List.mem_of_getElem? (i := 6) rfl)))) rfl rfl rfl (by decide +kernel) ⟨Nat.le_of_ble_eq_true rfl, Nat.le_of_ble_eq_true rfl⟩) (Wd.preV zo hA hZ hw hK hs.1 hs.2.1 rfl) rfl rfl hl.1 rfl (lv_room (Nat.le_of_ble_eq_true rfl)) dX10_endTold_82 ⟨Nat.le_of_ble_eq_true rfl, Nat.le_of_ble_eq_true rfl⟩) (fun x_10 L1 f1 H locs lx_10 ux_10 ex_10 hw => ?_)
    obtain ⟨rfl, rfl, ex_10⟩ := ex_10
    refine q_if_eq (tgt := 107) hx hb dX10_endTold_85 (by decide) ⟨lx_10, ux_10⟩ (fun c85 => ?_) (fun c85 => ?_)
    · exact J107 L0 f_2 hs hE (by omega) (by omega) (by omega) (by omega) (by omega) (by omega) (by omega) (by omega) (by omega) (by omega) (by omega) (by omega) (by omega) _ _ _ hw (lv_sub hl [0] rfl)
    · refine lv_aload_n hx hb dX10_endTold_88 rfl (lv_at hl 0 rfl) ?_
      refine q_call_v hA hK hw (va_runV (As := []) (rest := []) ⟨hx, hb, hml, hown, hts⟩ (c_X10_next zo l D cy L0 f_2 a0 ad hs (by omega) (by omega) (by omega) (by omega) (by omega) _) (cwV 0 hts (gT (inV (mr19 _ (List.mem_of_getElem? (i := 4) rfl)) (mr19 _ (List.mem_of_getElem? (i := 5) rfl)) (mr19 _ (List.mem_of_getElem? (i := 6) rfl)) (mr1 _ (List.mem_of_getElem? (i := 5) rfl)) (mr19 _ (List.mem_of_getElem? (i := 7) rfl)))) rfl rfl rfl (by decide +kernel) ⟨Nat.le_of_ble_eq_true rfl, Nat.le_of_ble_eq_true rfl⟩) (Wd.preV zo hA hZ hw hK hs.1 hs.2.1 rfl) rfl rfl hl.1 rfl (lv_room (Nat.le_of_ble_eq_true rfl)) dX10_endTold_89 ⟨Nat.le_of_ble_eq_true rfl, Nat.le_of_ble_eq_true rfl⟩) (fun L1 f_12 H locs ex_11 hw => ?_)
      obtain ⟨rfl, hs, hX, ex_11⟩ := ex_11
      have hE := hE.trans (hX.mono (rs' := [21]) (fs' := [15, 16, 17, 18, 19, 20, 22]) (by decide) (by decide))
      have t14_f_12 : fI f_12 a0 14 = fI f_2 a0 14 := hX.2 14 (by decide)
      have t20_f_12 : fI f_12 a0 20 = fI f_2 a0 20 := hX.2 20 (by decide)
      have t22_f_12 : fI f_12 a0 22 = fI f_2 a0 22 := hX.2 22 (by decide)
      have c21_1_f_12 : aI f_12 (ad 21) 1 = aI f_2 (ad 21) 1 := hX.1 21 rfl (by decide) _
      have c21_2_f_12 : aI f_12 (ad 21) 2 = aI f_2 (ad 21) 2 := hX.1 21 rfl (by decide) _
      have c21_3_f_12 : aI f_12 (ad 21) 3 = aI f_2 (ad 21) 3 := hX.1 21 rfl (by decide) _
      have c21_4_f_12 : aI f_12 (ad 21) 4 = aI f_2 (ad 21) 4 := hX.1 21 rfl (by decide) _
      have c21_5_f_12 : aI f_12 (ad 21) 5 = aI f_2 (ad 21) 5 := hX.1 21 rfl (by decide) _
      have c21_8_f_12 : aI f_12 (ad 21) 8 = aI f_2 (ad 21) 8 := hX.1 21 rfl (by decide) _
      refine lv_aload_n hx hb dX10_endTold_92 rfl (lv_at hl 0 rfl) ?_
      refine q_getr (ci := 8) (C := RX10) (T := TX10) (N := 26) hx hb hts (fun w h => List.mem_cons_of_mem _ (mfX100 w h)) hown hK hw hs.1 hs.2.1 rfl 21 (by decide) (hts _ (List.mem_cons_of_mem _ (mr3 _ (List.mem_of_getElem? (i := 22) rfl)))) (fun _ h => h) rfl (hs.2.2.1 21 rfl).1 dX10_endTold_93 ?_
      refine q_bipush hx hb dX10_endTold_96 rfl ?_
      refine lv_aload_n hx hb dX10_endTold_98 rfl (lv_at hl 0 rfl) ?_
      refine q_iconst hx hb dX10_endTold_99 ?_
      refine q_sipush hx hb dX10_endTold_100 rfl ?_
      refine q_call_i hA hK hw (va_runV (As := [.int (iI 1), .int (iI 999)]) (rest := [.int (iI 9), .ref (ad 21)]) ⟨hx, hb, hml, hown, hts⟩ (c_X10_numberTold zo l D cy L0 f_12 a0 1 (by decide) (by decide) 999 (by decide) (by decide) ad hs (by omega) (by omega) (by omega) (by omega) (by omega) (by omega) _) (cwV 2 hts (gT (inV (mr20 _ (List.mem_of_getElem? (i := 16) rfl)) (mr20 _ (List.mem_of_getElem? (i := 17) rfl)) (mr20 _ (List.mem_of_getElem? (i := 18) rfl)) (mr1 _ (List.mem_of_getElem? (i := 5) rfl)) (mr20 _ (List.mem_of_getElem? (i := 19) rfl)))) rfl rfl rfl (by decide +kernel) ⟨Nat.le_of_ble_eq_true rfl, Nat.le_of_ble_eq_true rfl⟩) (Wd.preV zo hA hZ hw hK hs.1 hs.2.1 rfl) rfl rfl hl.1 rfl (lv_room (Nat.le_of_ble_eq_true rfl)) dX10_endTold_103 ⟨Nat.le_of_ble_eq_true rfl, Nat.le_of_ble_eq_true rfl⟩) (fun x_13 L1 f_14 H locs lx_13 ux_13 ex_13 hw => ?_)
      obtain ⟨rfl, hs, hX, ex_13⟩ := ex_13
      have hE := hE.trans (hX.mono (rs' := [21]) (fs' := [15, 16, 17, 18, 19, 20, 22]) (by decide) (by decide))
      have t14_f_14 : fI f_14 a0 14 = fI f_12 a0 14 := hX.2 14 (by decide)
      have t22_f_14 : fI f_14 a0 22 = fI f_12 a0 22 := hX.2 22 (by decide)
      have c21_1_f_14 : aI f_14 (ad 21) 1 = aI f_12 (ad 21) 1 := hX.1 21 rfl (by decide) _
      have c21_2_f_14 : aI f_14 (ad 21) 2 = aI f_12 (ad 21) 2 := hX.1 21 rfl (by decide) _
      have c21_3_f_14 : aI f_14 (ad 21) 3 = aI f_12 (ad 21) 3 := hX.1 21 rfl (by decide) _
      have c21_4_f_14 : aI f_14 (ad 21) 4 = aI f_12 (ad 21) 4 := hX.1 21 rfl (by decide) _
      have c21_5_f_14 : aI f_14 (ad 21) 5 = aI f_12 (ad 21) 5 := hX.1 21 rfl (by decide) _
      have c21_8_f_14 : aI f_14 (ad 21) 8 = aI f_12 (ad 21) 8 := hX.1 21 rfl (by decide) _
      refine q_iast hx hb hK hw (hs.2.2.1 21 rfl).2.1 1 (hs.2.2.1 21 rfl).2.2 rfl ⟨by decide, by decide⟩ (by omega) (by show _ < ((44 : Nat) : Int); omega) dX10_endTold_106 (fun H locs hw => ?_)
      obtain ⟨f_15, ef_15⟩ : ∃ g : Nat → va_E, g = aU f_14 (ad 21) 9 (iI x_13) := ⟨_, rfl⟩
      have t14_f_15 : fI f_15 a0 14 = fI f_14 a0 14 := by rw [ef_15]; exact hs.fI_aU rfl _ _
      have t15_f_15 : fI f_15 a0 15 = fI f_14 a0 15 := by rw [ef_15]; exact hs.fI_aU rfl _ _
      have t16_f_15 : fI f_15 a0 16 = fI f_14 a0 16 := by rw [ef_15]; exact hs.fI_aU rfl _ _
      have t17_f_15 : fI f_15 a0 17 = fI f_14 a0 17 := by rw [ef_15]; exact hs.fI_aU rfl _ _
      have t20_f_15 : fI f_15 a0 20 = fI f_14 a0 20 := by rw [ef_15]; exact hs.fI_aU rfl _ _
      have t22_f_15 : fI f_15 a0 22 = fI f_14 a0 22 := by rw [ef_15]; exact hs.fI_aU rfl _ _
      have hE := hE.trans (show Kp a0 ad [21] [15, 16, 17, 18, 19, 20, 22] f_14 f_15 by rw [ef_15]; exact Kp_aU hs rfl (by decide))
      have hs_ := hs
      have hs : MS cy L0 f_15 a0 ad := by rw [ef_15]; exact MS_aU hs rfl
      rw [← ef_15] at hw
      have c21_1_f_15 : aI f_15 (ad 21) 1 = aI f_14 (ad 21) 1 := by rw [ef_15]; exact hs_.aI_nj rfl (by decide) (by decide) (by decide)
      have c21_2_f_15 : aI f_15 (ad 21) 2 = aI f_14 (ad 21) 2 := by rw [ef_15]; exact hs_.aI_nj rfl (by decide) (by decide) (by decide)
      have c21_3_f_15 : aI f_15 (ad 21) 3 = aI f_14 (ad 21) 3 := by rw [ef_15]; exact hs_.aI_nj rfl (by decide) (by decide) (by decide)
      have c21_4_f_15 : aI f_15 (ad 21) 4 = aI f_14 (ad 21) 4 := by rw [ef_15]; exact hs_.aI_nj rfl (by decide) (by decide) (by decide)
      have c21_5_f_15 : aI f_15 (ad 21) 5 = aI f_14 (ad 21) 5 := by rw [ef_15]; exact hs_.aI_nj rfl (by decide) (by decide) (by decide)
      have c21_8_f_15 : aI f_15 (ad 21) 8 = aI f_14 (ad 21) 8 := by rw [ef_15]; exact hs_.aI_nj rfl (by decide) (by decide) (by decide)
      exact J107 L0 f_15 hs hE (by omega) (by omega) (by omega) (by omega) (by omega) (by omega) (by omega) (by omega) (by omega) (by omega) (by omega) (by omega) (by omega) _ _ _ hw (lv_sub hl [0] rfl)
  · refine lv_aload_n hx hb dX10_endTold_25 rfl (lv_at hl 0 rfl) ?_
    refine q_call_v hA hK hw (va_runV (As := []) (rest := []) ⟨hx, hb, hml, hown, hts⟩ (c_X10_next zo l D cy L0 f_2 a0 ad hs (by omega) (by omega) (by omega) (by omega) (by omega) _) (cwV 0 hts (gT (inV (mr19 _ (List.mem_of_getElem? (i := 4) rfl)) (mr19 _ (List.mem_of_getElem? (i := 5) rfl)) (mr19 _ (List.mem_of_getElem? (i := 6) rfl)) (mr1 _ (List.mem_of_getElem? (i := 5) rfl)) (mr19 _ (List.mem_of_getElem? (i := 7) rfl)))) rfl rfl rfl (by decide +kernel) ⟨Nat.le_of_ble_eq_true rfl, Nat.le_of_ble_eq_true rfl⟩) (Wd.preV zo hA hZ hw hK hs.1 hs.2.1 rfl) rfl rfl hl.1 rfl (lv_room (Nat.le_of_ble_eq_true rfl)) dX10_endTold_26 ⟨Nat.le_of_ble_eq_true rfl, Nat.le_of_ble_eq_true rfl⟩) (fun L1 f_17 H locs ex_16 hw => ?_)
    obtain ⟨rfl, hs, hX, ex_16⟩ := ex_16
    have hE := hE.trans (hX.mono (rs' := [21]) (fs' := [15, 16, 17, 18, 19, 20, 22]) (by decide) (by decide))
    have t14_f_17 : fI f_17 a0 14 = fI f_2 a0 14 := hX.2 14 (by decide)
    have t20_f_17 : fI f_17 a0 20 = fI f_2 a0 20 := hX.2 20 (by decide)
    have t22_f_17 : fI f_17 a0 22 = fI f_2 a0 22 := hX.2 22 (by decide)
    have c21_1_f_17 : aI f_17 (ad 21) 1 = aI f_2 (ad 21) 1 := hX.1 21 rfl (by decide) _
    have c21_2_f_17 : aI f_17 (ad 21) 2 = aI f_2 (ad 21) 2 := hX.1 21 rfl (by decide) _
    have c21_3_f_17 : aI f_17 (ad 21) 3 = aI f_2 (ad 21) 3 := hX.1 21 rfl (by decide) _
    have c21_4_f_17 : aI f_17 (ad 21) 4 = aI f_2 (ad 21) 4 := hX.1 21 rfl (by decide) _
    have c21_5_f_17 : aI f_17 (ad 21) 5 = aI f_2 (ad 21) 5 := hX.1 21 rfl (by decide) _
    have c21_8_f_17 : aI f_17 (ad 21) 8 = aI f_2 (ad 21) 8 := hX.1 21 rfl (by decide) _
    refine lv_aload_n hx hb dX10_endTold_29 rfl (lv_at hl 0 rfl) ?_
    refine q_getr (ci := 8) (C := RX10) (T := TX10) (N := 26) hx hb hts (fun w h => List.mem_cons_of_mem _ (mfX100 w h)) hown hK hw hs.1 hs.2.1 rfl 21 (by decide) (hts _ (List.mem_cons_of_mem _ (mr3 _ (List.mem_of_getElem? (i := 22) rfl)))) (fun _ h => h) rfl (hs.2.2.1 21 rfl).1 dX10_endTold_30 ?_
    refine q_bipush hx hb dX10_endTold_33 rfl ?_
    refine lv_aload_n hx hb dX10_endTold_35 rfl (lv_at hl 0 rfl) ?_
    refine q_call_i hA hK hw (va_runV (As := []) (rest := [.int (iI 8), .ref (ad 21)]) ⟨hx, hb, hml, hown, hts⟩ (c_X10_dateTold zo l D cy L0 f_17 a0 ad hs (by omega) (by omega) (by omega) (by omega) (by omega) (by omega) (by first | exact hd | exact hd.kp hE (by decide) (by decide) (by decide) (by decide)) _) (cwV 0 hts (gT (inV (mr21 _ (List.mem_of_getElem? (i := 16) rfl)) (mr21 _ (List.mem_of_getElem? (i := 17) rfl)) (mr21 _ (List.mem_of_getElem? (i := 18) rfl)) (mr1 _ (List.mem_of_getElem? (i := 5) rfl)) (mr21 _ (List.mem_of_getElem? (i := 19) rfl)))) rfl rfl rfl (by decide +kernel) ⟨Nat.le_of_ble_eq_true rfl, Nat.le_of_ble_eq_true rfl⟩) (Wd.preV zo hA hZ hw hK hs.1 hs.2.1 rfl) rfl rfl hl.1 rfl (lv_room (Nat.le_of_ble_eq_true rfl)) dX10_endTold_36 ⟨Nat.le_of_ble_eq_true rfl, Nat.le_of_ble_eq_true rfl⟩) (fun x_18 L1 f_19 H locs lx_18 ux_18 ex_18 hw => ?_)
    obtain ⟨rfl, hs, hX, ex_18⟩ := ex_18
    have hE := hE.trans (hX.mono (rs' := [21]) (fs' := [15, 16, 17, 18, 19, 20, 22]) (by decide) (by decide))
    have t14_f_19 : fI f_19 a0 14 = fI f_17 a0 14 := hX.2 14 (by decide)
    have c21_1_f_19 : aI f_19 (ad 21) 1 = aI f_17 (ad 21) 1 := hX.1 21 rfl (by decide) _
    have c21_2_f_19 : aI f_19 (ad 21) 2 = aI f_17 (ad 21) 2 := hX.1 21 rfl (by decide) _
    have c21_3_f_19 : aI f_19 (ad 21) 3 = aI f_17 (ad 21) 3 := hX.1 21 rfl (by decide) _
    have c21_4_f_19 : aI f_19 (ad 21) 4 = aI f_17 (ad 21) 4 := hX.1 21 rfl (by decide) _
    have c21_5_f_19 : aI f_19 (ad 21) 5 = aI f_17 (ad 21) 5 := hX.1 21 rfl (by decide) _
    have c21_8_f_19 : aI f_19 (ad 21) 8 = aI f_17 (ad 21) 8 := hX.1 21 rfl (by decide) _
    refine q_iast hx hb hK hw (hs.2.2.1 21 rfl).2.1 1 (hs.2.2.1 21 rfl).2.2 rfl ⟨by decide, by decide⟩ (by omega) (by show _ < ((44 : Nat) : Int); omega) dX10_endTold_39 (fun H locs hw => ?_)
    obtain ⟨f_20, ef_20⟩ : ∃ g : Nat → va_E, g = aU f_19 (ad 21) 8 (iI x_18) := ⟨_, rfl⟩
    have t14_f_20 : fI f_20 a0 14 = fI f_19 a0 14 := by rw [ef_20]; exact hs.fI_aU rfl _ _
    have t15_f_20 : fI f_20 a0 15 = fI f_19 a0 15 := by rw [ef_20]; exact hs.fI_aU rfl _ _
    have t16_f_20 : fI f_20 a0 16 = fI f_19 a0 16 := by rw [ef_20]; exact hs.fI_aU rfl _ _
    have t17_f_20 : fI f_20 a0 17 = fI f_19 a0 17 := by rw [ef_20]; exact hs.fI_aU rfl _ _
    have t20_f_20 : fI f_20 a0 20 = fI f_19 a0 20 := by rw [ef_20]; exact hs.fI_aU rfl _ _
    have t22_f_20 : fI f_20 a0 22 = fI f_19 a0 22 := by rw [ef_20]; exact hs.fI_aU rfl _ _
    have hE := hE.trans (show Kp a0 ad [21] [15, 16, 17, 18, 19, 20, 22] f_19 f_20 by rw [ef_20]; exact Kp_aU hs rfl (by decide))
    have hs_ := hs
    have hs : MS cy L0 f_20 a0 ad := by rw [ef_20]; exact MS_aU hs rfl
    rw [← ef_20] at hw
    have c21_1_f_20 : aI f_20 (ad 21) 1 = aI f_19 (ad 21) 1 := by rw [ef_20]; exact hs_.aI_nj rfl (by decide) (by decide) (by decide)
    have c21_2_f_20 : aI f_20 (ad 21) 2 = aI f_19 (ad 21) 2 := by rw [ef_20]; exact hs_.aI_nj rfl (by decide) (by decide) (by decide)
    have c21_3_f_20 : aI f_20 (ad 21) 3 = aI f_19 (ad 21) 3 := by rw [ef_20]; exact hs_.aI_nj rfl (by decide) (by decide) (by decide)
    have c21_4_f_20 : aI f_20 (ad 21) 4 = aI f_19 (ad 21) 4 := by rw [ef_20]; exact hs_.aI_nj rfl (by decide) (by decide) (by decide)
    have c21_5_f_20 : aI f_20 (ad 21) 5 = aI f_19 (ad 21) 5 := by rw [ef_20]; exact hs_.aI_nj rfl (by decide) (by decide) (by decide)
    have c21_8_f_20 : aI f_20 (ad 21) 8 = x_18 := by rw [ef_20]; exact hs_.aI_self rfl ⟨lx_18, ux_18⟩
    refine lv_aload_n hx hb dX10_endTold_40 rfl (lv_at hl 0 rfl) ?_
    refine q_geti (ci := 8) (C := RX10) (T := TX10) (N := 26) hx hb hts (fun w h => List.mem_cons_of_mem _ (mfX100 w h)) hown hK hw hs.1 hs.2.1 rfl 20 (by decide) (hts _ (List.mem_cons_of_mem _ (mr19 _ (List.mem_of_getElem? (i := 2) rfl)))) (fun _ h => h) rfl dX10_endTold_41 (fun x_21 lx_21 ux_21 ex_21 => ?_)
    refine q_if_ne (tgt := 107) hx hb dX10_endTold_44 (by decide) ⟨lx_21, ux_21⟩ (fun c44 => ?_) (fun c44 => ?_)
    · exact J107 L0 f_20 hs hE (by omega) (by omega) (by omega) (by omega) (by omega) (by omega) (by omega) (by omega) (by omega) (by omega) (by omega) (by omega) (by omega) _ _ _ hw (lv_sub hl [0] rfl)
    · refine lv_aload_n hx hb dX10_endTold_47 rfl (lv_at hl 0 rfl) ?_
      refine q_getr (ci := 8) (C := RX10) (T := TX10) (N := 26) hx hb hts (fun w h => List.mem_cons_of_mem _ (mfX100 w h)) hown hK hw hs.1 hs.2.1 rfl 21 (by decide) (hts _ (List.mem_cons_of_mem _ (mr3 _ (List.mem_of_getElem? (i := 22) rfl)))) (fun _ h => h) rfl (hs.2.2.1 21 rfl).1 dX10_endTold_48 ?_
      refine q_bipush hx hb dX10_endTold_51 rfl ?_
      refine q_iald hx hb hK hw (hs.2.2.1 21 rfl).2.1 1 (hs.2.2.1 21 rfl).2.2 rfl ⟨by decide, by decide⟩ (by omega) (by show _ < ((44 : Nat) : Int); omega) dX10_endTold_53 (fun x_22 lx_22 ux_22 ex_22 => ?_)
      refine lv_aload_n hx hb dX10_endTold_54 rfl (lv_at hl 0 rfl) ?_
      refine q_getr (ci := 8) (C := RX10) (T := TX10) (N := 26) hx hb hts (fun w h => List.mem_cons_of_mem _ (mfX100 w h)) hown hK hw hs.1 hs.2.1 rfl 21 (by decide) (hts _ (List.mem_cons_of_mem _ (mr3 _ (List.mem_of_getElem? (i := 22) rfl)))) (fun _ h => h) rfl (hs.2.2.1 21 rfl).1 dX10_endTold_55 ?_
      refine q_iconst hx hb dX10_endTold_58 ?_
      refine q_iald hx hb hK hw (hs.2.2.1 21 rfl).2.1 1 (hs.2.2.1 21 rfl).2.2 rfl ⟨by decide, by decide⟩ (by omega) (by show _ < ((44 : Nat) : Int); omega) dX10_endTold_59 (fun x_23 lx_23 ux_23 ex_23 => ?_)
      refine q_icmp_ge (tgt := 107) hx hb dX10_endTold_60 (by decide) ⟨lx_22, ux_22⟩ ⟨lx_23, ux_23⟩ (fun c60 => ?_) (fun c60 => ?_)
      · exact J107 L0 f_20 hs hE (by omega) (by omega) (by omega) (by omega) (by omega) (by omega) (by omega) (by omega) (by omega) (by omega) (by omega) (by omega) (by omega) _ _ _ hw (lv_sub hl [0] rfl)
      · refine lv_aload_n hx hb dX10_endTold_63 rfl (lv_at hl 0 rfl) ?_
        refine q_bipush hx hb dX10_endTold_64 rfl ?_
        refine lv_aload_n hx hb dX10_endTold_66 rfl (lv_at hl 0 rfl) ?_
        refine q_geti (ci := 8) (C := RX10) (T := TX10) (N := 26) hx hb hts (fun w h => List.mem_cons_of_mem _ (mfX100 w h)) hown hK hw hs.1 hs.2.1 rfl 22 (by decide) (hts _ (List.mem_cons_of_mem _ (mr21 _ (List.mem_of_getElem? (i := 20) rfl)))) (fun _ h => h) rfl dX10_endTold_67 (fun x_24 lx_24 ux_24 ex_24 => ?_)
        first | refine q_imul hx hb dX10_endTold_70 ⟨by omega, by omega⟩ (fun x_25 lx_25 ux_25 ex_25 => ?_) | refine q_imulw hx hb dX10_endTold_70 (fun x_25 lx_25 ux_25 ex_25 => ?_)
        refine q_iconst hx hb dX10_endTold_71 ?_
        first | refine q_iadd hx hb dX10_endTold_72 ⟨by omega, by omega⟩ (fun x_26 lx_26 ux_26 ex_26 => ?_) | refine q_iaddw hx hb dX10_endTold_72 (fun x_26 lx_26 ux_26 ex_26 => ?_)
        refine q_puti (ci := 8) (C := RX10) (T := TX10) (N := 26) hx hb hts (fun w h => List.mem_cons_of_mem _ (mfX100 w h)) hown hK hw hs.1 hs.2.1 rfl 20 (by decide) (hts _ (List.mem_cons_of_mem _ (mr19 _ (List.mem_of_getElem? (i := 2) rfl)))) (fun _ h => h) tyX10 tyX10_ok nmX10 rfl (ty := .int) (by decide +kernel) rfl rfl dX10_endTold_73 (fun H locs hw => ?_)
        obtain ⟨f_27, ef_27⟩ : ∃ g : Nat → va_E, g = pU f_20 a0 20 (.int (iI x_26)) := ⟨_, rfl⟩
        have v20_f_27 : fI f_27 a0 20 = x_26 := by rw [ef_27]; exact fI_pU_self hs.2.1 rfl ⟨lx_26, ux_26⟩
        have t14_f_27 : fI f_27 a0 14 = fI f_20 a0 14 := by rw [ef_27]; exact fI_pU (Or.inr (by decide))
        have t15_f_27 : fI f_27 a0 15 = fI f_20 a0 15 := by rw [ef_27]; exact fI_pU (Or.inr (by decide))
        have t16_f_27 : fI f_27 a0 16 = fI f_20 a0 16 := by rw [ef_27]; exact fI_pU (Or.inr (by decide))
        have t17_f_27 : fI f_27 a0 17 = fI f_20 a0 17 := by rw [ef_27]; exact fI_pU (Or.inr (by decide))
        have t22_f_27 : fI f_27 a0 22 = fI f_20 a0 22 := by rw [ef_27]; exact fI_pU (Or.inr (by decide))
        have hE := hE.trans (show Kp a0 ad [21] [15, 16, 17, 18, 19, 20, 22] f_20 f_27 by rw [ef_27]; exact Kp_pU hs (by decide))
        have hs_ := hs
        have hs : MS cy L0 f_27 a0 ad := by rw [ef_27]; exact MS_pU hs rfl
        rw [← ef_27] at hw
        have c21_1_f_27 : aI f_27 (ad 21) 1 = aI f_20 (ad 21) 1 := by rw [ef_27]; exact hs_.aI_pU _ _
        have c21_2_f_27 : aI f_27 (ad 21) 2 = aI f_20 (ad 21) 2 := by rw [ef_27]; exact hs_.aI_pU _ _
        have c21_3_f_27 : aI f_27 (ad 21) 3 = aI f_20 (ad 21) 3 := by rw [ef_27]; exact hs_.aI_pU _ _
        have c21_4_f_27 : aI f_27 (ad 21) 4 = aI f_20 (ad 21) 4 := by rw [ef_27]; exact hs_.aI_pU _ _
        have c21_5_f_27 : aI f_27 (ad 21) 5 = aI f_20 (ad 21) 5 := by rw [ef_27]; exact hs_.aI_pU _ _
        have c21_8_f_27 : aI f_27 (ad 21) 8 = aI f_20 (ad 21) 8 := by rw [ef_27]; exact hs_.aI_pU _ _
        refine lv_goto (tgt := 107) hx hb dX10_endTold_76 (by decide) ?_
        exact J107 L0 f_27 hs hE (by omega) (by omega) (by omega) (by omega) (by omega) (by omega) (by omega) (by omega) (by omega) (by omega) (by omega) (by omega) (by omega) _ _ _ hw (lv_sub hl [0] rfl)
