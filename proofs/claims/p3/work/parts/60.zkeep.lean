theorem fI_V {f g : Nat → va_E} {a k : Nat} (h : fV g a k = fV f a k) : fI g a k = fI f a k := by unfold fI; rw [h]
set_option maxHeartbeats 4000000 in
set_option maxRecDepth 100000 in
theorem c_X5_makeRule_k {Z : Zt} (zo : Zok Z) (l : Launch) (D : va_G) (cy : Cy) (L0 : List Nat) (f0 : Nat → va_E) (a0 : Nat) (x1 : Int) (lx1 : -2147483648 ≤ x1) (ux1 : x1 ≤ 2147483647) (m_a0 : a0 ∈ L0) (o_a0 : Ob f0 a0 4) (hg : GI cy L0 f0) : Cr Z l yX5_makeRule (Cond.code yX5_makeRule cX5_makeRule 2 (some (.object "BookIndex$Rule")) :: TB) ({ frames := 3, cells := 1, slots := 7, locals := 68 } : Room) 1 7 D (tq cy) [.ref a0, .int (iI x1)] L0 f0 (fun (r : Nat) (L1 : List Nat) (f1 : Nat → va_E) => (∀ x ∈ L0, x ∈ L1) ∧ GI cy L1 f1 ∧ Al cy L0 f0 f1 ∧ ((∀ a ∈ L0, Ob f0 a 7 → fI f1 a 1 = fI f0 a 1) ∧ (r ∈ L1 ∧ Rl f1 r))) := by
  refine Cr.enter (cc := cX5_makeRule) (n := 2) rfl (plainFor_of_name (by decide)) (Nat.le_of_ble_eq_true rfl) ?_
  intro p e s m below meth c ls A hx hb hr hts hown hlocks hnm hml hK hA hAe hw hZ hl
  have hown : s.vm.findClass RX5 = some m.cls := hown
  have hl : lv_has ls 2 [(0, .ref a0), (1, .int (iI x1))] := hl
  have hN : ZN s := (zo.2.2.2.2 _ _ _ hZ).2
  have hs : ∀ x ∈ L0, x ∈ L0 := fun _ h => h
  have hE : Al cy L0 f0 f0 := Al.refl cy L0 f0
  have hk1 : ∀ a ∈ L0, Ob f0 a 7 → fI f0 a 1 = fI f0 a 1 := fun _ _ _ => rfl
  refine lv_aload_n hx hb dX5_makeRule_0 rfl (lv_at hl 0 rfl) ?_
  refine q_geti (ci := 4) (C := RX5) (T := TX5) (N := 10) hx hb hts (fun w h => List.mem_cons_of_mem _ (mfX50 w h)) hown hK hw m_a0 o_a0 rfl 6 (by decide) (hts _ (List.mem_cons_of_mem _ (mr6 _ (List.mem_of_getElem? (i := 7) rfl)))) (fun _ h => h) rfl dX5_makeRule_1 (fun x_1 lx_1 ux_1 ex_1 => ?_)
  have t4 : (iI x_1).toInt = x_1 := iI_toInt ⟨lx_1, ux_1⟩
  rcases (show (x_1 < 0 ∨ 2 < x_1) ∨ (x_1 = 0) ∨ (x_1 = 1) ∨ (x_1 = 2) by omega) with k4 | k4 | k4 | k4
  · refine lv_tableOut (tgt := 71) hx hb dX5_makeRule_4 (by rw [t4]; omega) (by decide) ?_
    refine q_new (ci := 2) (C := RX3) (T := TX3) (N := 7) (fs := [.int 0, .int 0, .int 0, .int 0, .int 0, .int 0, .int 0]) hx hb hts (fun w h => List.mem_cons_of_mem _ (mfX30 w h)) tyX3 tyX3_ok hown (hts _ (List.mem_cons_of_mem _ (mr12 _ (List.mem_of_getElem? (i := 16) rfl)))) (hts _ (List.mem_cons_of_mem _ (mr12 _ (List.mem_of_getElem? (i := 17) rfl)))) (hts _ (List.mem_cons_of_mem _ (mr12 _ (List.mem_of_getElem? (i := 18) rfl)))) hK hw hA rfl (by decide) (Nat.le_of_ble_eq_true rfl) (Nat.le_of_ble_eq_true rfl) dX5_makeRule_71 (fun q_2 H n_q_2 hw => ?_)
    obtain ⟨f_3, ef_3⟩ : ∃ g : Nat → va_E, g = va_up f0 q_2 (.inr (2, [.int 0, .int 0, .int 0, .int 0, .int 0, .int 0, .int 0])) := ⟨_, rfl⟩
    rw [← ef_3] at hw
    have hX : Al cy L0 f0 f_3 := by rw [ef_3]; exact Al.push n_q_2
    have hg : GI cy L0 f_3 := by rw [ef_3]; exact hg.push n_q_2
    have hM : ∀ x ∈ L0, x ∈ L0 ++ [q_2] := fun x h => List.mem_append_left _ h
    have hs0 := hs
    have hk1 : ∀ a ∈ L0, Ob f0 a 7 → fI f_3 a 1 = fI f0 a 1 := fun a m o => Eq.trans (fI_of (show f_3 a = f0 a by rw [ef_3]; exact va_up_ne _ _ (fun (z : a = q_2) => n_q_2 (z ▸ (hs a m))))) (hk1 a m o)
    have hE := hE.trans hs (hX)
    have o_a0 := hX.1 _ m_a0 _ o_a0
    have mg_a0 := m_a0
    have m_a0 := hM _ m_a0
    have hs : ∀ x ∈ L0, x ∈ L0 ++ [q_2] := fun x h => hM x (hs x h)
    have m_q_2 : q_2 ∈ L0 ++ [q_2] := List.mem_append_right _ (List.mem_singleton.mpr rfl)
    have o_q_2 : Ob f_3 q_2 2 := by rw [ef_3]; exact ⟨_, va_up_self _ _ _, rfl⟩
    refine lv_dup hx hb dX5_makeRule_74 rfl ?_
    refine lv_aload_n hx hb dX5_makeRule_75 rfl (lv_at hl 0 rfl) ?_
    refine q_geti (ci := 4) (C := RX5) (T := TX5) (N := 10) hx hb hts (fun w h => List.mem_cons_of_mem _ (mfX50 w h)) hown hK hw m_a0 o_a0 rfl 6 (by decide) (hts _ (List.mem_cons_of_mem _ (mr6 _ (List.mem_of_getElem? (i := 7) rfl)))) (fun _ h => h) rfl dX5_makeRule_76 (fun x_4 lx_4 ux_4 ex_4 => ?_)
    refine lv_aload_n hx hb dX5_makeRule_79 rfl (lv_at hl 0 rfl) ?_
    refine q_geti (ci := 4) (C := RX5) (T := TX5) (N := 10) hx hb hts (fun w h => List.mem_cons_of_mem _ (mfX50 w h)) hown hK hw m_a0 o_a0 rfl 7 (by decide) (hts _ (List.mem_cons_of_mem _ (mr6 _ (List.mem_of_getElem? (i := 8) rfl)))) (fun _ h => h) rfl dX5_makeRule_80 (fun x_5 lx_5 ux_5 ex_5 => ?_)
    have bx_5 : -1 ≤ x_5 ∧ x_5 ≤ 999 := by rw [ex_5]; exact hg.1 _ mg_a0 4 7 o_a0
    refine lv_iload_n hx hb dX5_makeRule_83 rfl (lv_at hl 1 rfl) ?_
    refine lv_aload_n hx hb dX5_makeRule_84 rfl (lv_at hl 0 rfl) ?_
    refine q_geti (ci := 4) (C := RX5) (T := TX5) (N := 10) hx hb hts (fun w h => List.mem_cons_of_mem _ (mfX50 w h)) hown hK hw m_a0 o_a0 rfl 8 (by decide) (hts _ (List.mem_cons_of_mem _ (mr6 _ (List.mem_of_getElem? (i := 9) rfl)))) (fun _ h => h) rfl dX5_makeRule_85 (fun x_6 lx_6 ux_6 ex_6 => ?_)
    refine lv_aload_n hx hb dX5_makeRule_88 rfl (lv_at hl 0 rfl) ?_
    refine q_geti (ci := 4) (C := RX5) (T := TX5) (N := 10) hx hb hts (fun w h => List.mem_cons_of_mem _ (mfX50 w h)) hown hK hw m_a0 o_a0 rfl 9 (by decide) (hts _ (List.mem_cons_of_mem _ (mr6 _ (List.mem_of_getElem? (i := 10) rfl)))) (fun _ h => h) rfl dX5_makeRule_89 (fun x_7 lx_7 ux_7 ex_7 => ?_)
    refine q_call_v hA hK hw (va_runI (As := [.int (iI x_4), .int (iI x_5), .int (iI x1), .int (iI x_6), .int (iI x_7)]) (rest := [.ref q_2]) ⟨hx, hb, hml, hown, hts⟩ (c_X3_init zo l D cy (L0 ++ [q_2]) f_3 q_2 x_4 lx_4 ux_4 x_5 lx_5 ux_5 x1 lx1 ux1 x_6 lx_6 ux_6 x_7 lx_7 ux_7 m_q_2 o_q_2 (L0) hM hg (by omega) (by omega) _) (cwI 5 hts (gT (inC (mr13 _ (List.mem_of_getElem? (i := 16) rfl)))) rfl rfl rfl (hts _ (List.mem_cons_of_mem _ (mr12 _ (List.mem_of_getElem? (i := 18) rfl)))) (hts _ (List.mem_cons_of_mem _ (mr13 _ (List.mem_of_getElem? (i := 14) rfl)))) (hts _ (List.mem_cons_of_mem _ (mr13 _ (List.mem_of_getElem? (i := 15) rfl)))) rfl (by decide +kernel) ⟨Nat.le_of_ble_eq_true rfl, Nat.le_of_ble_eq_true rfl⟩) (Wd.preS zo hA hZ hw hK) rfl rfl hl.1 rfl (lv_room (Nat.le_of_ble_eq_true rfl)) dX5_makeRule_92 ⟨Nat.le_of_ble_eq_true rfl, Nat.le_of_ble_eq_true rfl⟩) (fun L1 f_9 H locs ex_8 hw => ?_)
    obtain ⟨rfl, hg, hX, ex_8⟩ := ex_8
    have hk1 : ∀ a ∈ L0, Ob f0 a 7 → fI f_9 a 1 = fI f0 a 1 := fun a m o => Eq.trans (fI_V (hX.2.1 a 1 (hE.1 a m 7 o))) (hk1 a m o)
    have hE := hE.trans hs (hX.ey.al _)
    have o_a0 := hX.1.1 _ _ o_a0
    have o_q_2 := hX.1.1 _ _ o_q_2
    have ex_8 := ex_8.2
    have hg := hg.addOb o_q_2 (fcond_2 ex_8) rcond_2
    exact q_ret_r hx hb hr hlocks hK hAe hw (Nat.le_of_ble_eq_true rfl) (Nat.le_of_ble_eq_true rfl) dX5_makeRule_95 (by exact ⟨hs, hg, hE, hk1, m_q_2, Or.inr (Or.inl o_q_2)⟩)
  · refine lv_tableIn (tgt := 32) (off := 28) hx hb dX5_makeRule_4 (by rw [t4]; omega) (by rw [t4]; omega) (by rw [t4, k4]; rfl) (by decide) ?_
    refine q_new (ci := 3) (C := RX4) (T := TX4) (N := 3) (fs := [.int 0, .int 0, .int 0]) hx hb hts (fun w h => List.mem_cons_of_mem _ (mfX40 w h)) tyX4 tyX4_ok hown (hts _ (List.mem_cons_of_mem _ (mr12 _ (List.mem_of_getElem? (i := 9) rfl)))) (hts _ (List.mem_cons_of_mem _ (mr2 _ (List.mem_of_getElem? (i := 6) rfl)))) (hts _ (List.mem_cons_of_mem _ (mr2 _ (List.mem_of_getElem? (i := 7) rfl)))) hK hw hA rfl (by decide) (Nat.le_of_ble_eq_true rfl) (Nat.le_of_ble_eq_true rfl) dX5_makeRule_32 (fun q_10 H n_q_10 hw => ?_)
    obtain ⟨f_11, ef_11⟩ : ∃ g : Nat → va_E, g = va_up f0 q_10 (.inr (3, [.int 0, .int 0, .int 0])) := ⟨_, rfl⟩
    rw [← ef_11] at hw
    have hX : Al cy L0 f0 f_11 := by rw [ef_11]; exact Al.push n_q_10
    have hg : GI cy L0 f_11 := by rw [ef_11]; exact hg.push n_q_10
    have hM : ∀ x ∈ L0, x ∈ L0 ++ [q_10] := fun x h => List.mem_append_left _ h
    have hs0 := hs
    have hk1 : ∀ a ∈ L0, Ob f0 a 7 → fI f_11 a 1 = fI f0 a 1 := fun a m o => Eq.trans (fI_of (show f_11 a = f0 a by rw [ef_11]; exact va_up_ne _ _ (fun (z : a = q_10) => n_q_10 (z ▸ (hs a m))))) (hk1 a m o)
    have hE := hE.trans hs (hX)
    have o_a0 := hX.1 _ m_a0 _ o_a0
    have mg_a0 := m_a0
    have m_a0 := hM _ m_a0
    have hs : ∀ x ∈ L0, x ∈ L0 ++ [q_10] := fun x h => hM x (hs x h)
    have m_q_10 : q_10 ∈ L0 ++ [q_10] := List.mem_append_right _ (List.mem_singleton.mpr rfl)
    have o_q_10 : Ob f_11 q_10 3 := by rw [ef_11]; exact ⟨_, va_up_self _ _ _, rfl⟩
    refine lv_dup hx hb dX5_makeRule_35 rfl ?_
    refine lv_iload_n hx hb dX5_makeRule_36 rfl (lv_at hl 1 rfl) ?_
    refine q_call_v hA hK hw (va_runI (As := [.int (iI x1)]) (rest := [.ref q_10]) ⟨hx, hb, hml, hown, hts⟩ (c_X4_init zo l D cy (L0 ++ [q_10]) f_11 q_10 x1 lx1 ux1 m_q_10 o_q_10 (L0) hM hg _) (cwI 1 hts (gT (inC (mr2 _ (List.mem_of_getElem? (i := 12) rfl)))) rfl rfl rfl (hts _ (List.mem_cons_of_mem _ (mr2 _ (List.mem_of_getElem? (i := 7) rfl)))) (hts _ (List.mem_cons_of_mem _ (mr12 _ (List.mem_of_getElem? (i := 19) rfl)))) (hts _ (List.mem_cons_of_mem _ (mr2 _ (List.mem_of_getElem? (i := 11) rfl)))) rfl (by decide +kernel) ⟨Nat.le_of_ble_eq_true rfl, Nat.le_of_ble_eq_true rfl⟩) (Wd.preS zo hA hZ hw hK) rfl rfl hl.1 rfl (lv_room (Nat.le_of_ble_eq_true rfl)) dX5_makeRule_37 ⟨Nat.le_of_ble_eq_true rfl, Nat.le_of_ble_eq_true rfl⟩) (fun L1 f_13 H locs ex_12 hw => ?_)
    obtain ⟨rfl, hg, hX, ex_12⟩ := ex_12
    have hk1 : ∀ a ∈ L0, Ob f0 a 7 → fI f_13 a 1 = fI f0 a 1 := fun a m o => Eq.trans (fI_V (hX.2.1 a 1 (hE.1 a m 7 o))) (hk1 a m o)
    have hE := hE.trans hs (hX.ey.al _)
    have o_a0 := hX.1.1 _ _ o_a0
    have o_q_10 := hX.1.1 _ _ o_q_10
    have ex_12 := ex_12.2
    have hg := hg.addOb o_q_10 fcond_3 rcond_3
    exact q_ret_r hx hb hr hlocks hK hAe hw (Nat.le_of_ble_eq_true rfl) (Nat.le_of_ble_eq_true rfl) dX5_makeRule_40 (by exact ⟨hs, hg, hE, hk1, m_q_10, Or.inr (Or.inr (Or.inl o_q_10))⟩)
  · refine lv_tableIn (tgt := 41) (off := 37) hx hb dX5_makeRule_4 (by rw [t4]; omega) (by rw [t4]; omega) (by rw [t4, k4]; rfl) (by decide) ?_
    refine q_new (ci := 1) (C := RX2) (T := TX2) (N := 4) (fs := [.int 0, .int 0, .int 0, .int 0]) hx hb hts (fun w h => List.mem_cons_of_mem _ (mfX20 w h)) tyX2 tyX2_ok hown (hts _ (List.mem_cons_of_mem _ (mr12 _ (List.mem_of_getElem? (i := 10) rfl)))) (hts _ (List.mem_cons_of_mem _ (mr12 _ (List.mem_of_getElem? (i := 11) rfl)))) (hts _ (List.mem_cons_of_mem _ (mr12 _ (List.mem_of_getElem? (i := 12) rfl)))) hK hw hA rfl (by decide) (Nat.le_of_ble_eq_true rfl) (Nat.le_of_ble_eq_true rfl) dX5_makeRule_41 (fun q_14 H n_q_14 hw => ?_)
    obtain ⟨f_15, ef_15⟩ : ∃ g : Nat → va_E, g = va_up f0 q_14 (.inr (1, [.int 0, .int 0, .int 0, .int 0])) := ⟨_, rfl⟩
    rw [← ef_15] at hw
    have hX : Al cy L0 f0 f_15 := by rw [ef_15]; exact Al.push n_q_14
    have hg : GI cy L0 f_15 := by rw [ef_15]; exact hg.push n_q_14
    have hM : ∀ x ∈ L0, x ∈ L0 ++ [q_14] := fun x h => List.mem_append_left _ h
    have hs0 := hs
    have hk1 : ∀ a ∈ L0, Ob f0 a 7 → fI f_15 a 1 = fI f0 a 1 := fun a m o => Eq.trans (fI_of (show f_15 a = f0 a by rw [ef_15]; exact va_up_ne _ _ (fun (z : a = q_14) => n_q_14 (z ▸ (hs a m))))) (hk1 a m o)
    have hE := hE.trans hs (hX)
    have o_a0 := hX.1 _ m_a0 _ o_a0
    have mg_a0 := m_a0
    have m_a0 := hM _ m_a0
    have hs : ∀ x ∈ L0, x ∈ L0 ++ [q_14] := fun x h => hM x (hs x h)
    have m_q_14 : q_14 ∈ L0 ++ [q_14] := List.mem_append_right _ (List.mem_singleton.mpr rfl)
    have o_q_14 : Ob f_15 q_14 1 := by rw [ef_15]; exact ⟨_, va_up_self _ _ _, rfl⟩
    refine lv_dup hx hb dX5_makeRule_44 rfl ?_
    refine lv_aload_n hx hb dX5_makeRule_45 rfl (lv_at hl 0 rfl) ?_
    refine q_geti (ci := 4) (C := RX5) (T := TX5) (N := 10) hx hb hts (fun w h => List.mem_cons_of_mem _ (mfX50 w h)) hown hK hw m_a0 o_a0 rfl 7 (by decide) (hts _ (List.mem_cons_of_mem _ (mr6 _ (List.mem_of_getElem? (i := 8) rfl)))) (fun _ h => h) rfl dX5_makeRule_46 (fun x_16 lx_16 ux_16 ex_16 => ?_)
    have bx_16 : -1 ≤ x_16 ∧ x_16 ≤ 999 := by rw [ex_16]; exact hg.1 _ mg_a0 4 7 o_a0
    refine lv_iload_n hx hb dX5_makeRule_49 rfl (lv_at hl 1 rfl) ?_
    refine q_call_v hA hK hw (va_runI (As := [.int (iI x_16), .int (iI x1)]) (rest := [.ref q_14]) ⟨hx, hb, hml, hown, hts⟩ (c_X2_init zo l D cy (L0 ++ [q_14]) f_15 q_14 x_16 lx_16 ux_16 x1 lx1 ux1 m_q_14 o_q_14 (L0) hM hg _) (cwI 2 hts (gT (inC (mr12 _ (List.mem_of_getElem? (i := 22) rfl)))) rfl rfl rfl (hts _ (List.mem_cons_of_mem _ (mr12 _ (List.mem_of_getElem? (i := 12) rfl)))) (hts _ (List.mem_cons_of_mem _ (mr12 _ (List.mem_of_getElem? (i := 20) rfl)))) (hts _ (List.mem_cons_of_mem _ (mr12 _ (List.mem_of_getElem? (i := 21) rfl)))) rfl (by decide +kernel) ⟨Nat.le_of_ble_eq_true rfl, Nat.le_of_ble_eq_true rfl⟩) (Wd.preS zo hA hZ hw hK) rfl rfl hl.1 rfl (lv_room (Nat.le_of_ble_eq_true rfl)) dX5_makeRule_50 ⟨Nat.le_of_ble_eq_true rfl, Nat.le_of_ble_eq_true rfl⟩) (fun L1 f_18 H locs ex_17 hw => ?_)
    obtain ⟨rfl, hg, hX, ex_17⟩ := ex_17
    have hk1 : ∀ a ∈ L0, Ob f0 a 7 → fI f_18 a 1 = fI f0 a 1 := fun a m o => Eq.trans (fI_V (hX.2.1 a 1 (hE.1 a m 7 o))) (hk1 a m o)
    have hE := hE.trans hs (hX.ey.al _)
    have o_a0 := hX.1.1 _ _ o_a0
    have o_q_14 := hX.1.1 _ _ o_q_14
    have ex_17 := ex_17.2
    have hg := hg.addOb o_q_14 (fcond_1 ex_17) rcond_1
    exact q_ret_r hx hb hr hlocks hK hAe hw (Nat.le_of_ble_eq_true rfl) (Nat.le_of_ble_eq_true rfl) dX5_makeRule_53 (by exact ⟨hs, hg, hE, hk1, m_q_14, Or.inl o_q_14⟩)
  · refine lv_tableIn (tgt := 54) (off := 50) hx hb dX5_makeRule_4 (by rw [t4]; omega) (by rw [t4]; omega) (by rw [t4, k4]; rfl) (by decide) ?_
    refine q_new (ci := 6) (C := RX8) (T := TX8) (N := 6) (fs := [.int 0, .int 0, .int 0, .int 0, .int 0, .int 0]) hx hb hts (fun w h => List.mem_cons_of_mem _ (mfX80 w h)) tyX8 tyX8_ok hown (hts _ (List.mem_cons_of_mem _ (mr12 _ (List.mem_of_getElem? (i := 13) rfl)))) (hts _ (List.mem_cons_of_mem _ (mr12 _ (List.mem_of_getElem? (i := 14) rfl)))) (hts _ (List.mem_cons_of_mem _ (mr12 _ (List.mem_of_getElem? (i := 15) rfl)))) hK hw hA rfl (by decide) (Nat.le_of_ble_eq_true rfl) (Nat.le_of_ble_eq_true rfl) dX5_makeRule_54 (fun q_19 H n_q_19 hw => ?_)
    obtain ⟨f_20, ef_20⟩ : ∃ g : Nat → va_E, g = va_up f0 q_19 (.inr (6, [.int 0, .int 0, .int 0, .int 0, .int 0, .int 0])) := ⟨_, rfl⟩
    rw [← ef_20] at hw
    have hX : Al cy L0 f0 f_20 := by rw [ef_20]; exact Al.push n_q_19
    have hg : GI cy L0 f_20 := by rw [ef_20]; exact hg.push n_q_19
    have hM : ∀ x ∈ L0, x ∈ L0 ++ [q_19] := fun x h => List.mem_append_left _ h
    have hs0 := hs
    have hk1 : ∀ a ∈ L0, Ob f0 a 7 → fI f_20 a 1 = fI f0 a 1 := fun a m o => Eq.trans (fI_of (show f_20 a = f0 a by rw [ef_20]; exact va_up_ne _ _ (fun (z : a = q_19) => n_q_19 (z ▸ (hs a m))))) (hk1 a m o)
    have hE := hE.trans hs (hX)
    have o_a0 := hX.1 _ m_a0 _ o_a0
    have mg_a0 := m_a0
    have m_a0 := hM _ m_a0
    have hs : ∀ x ∈ L0, x ∈ L0 ++ [q_19] := fun x h => hM x (hs x h)
    have m_q_19 : q_19 ∈ L0 ++ [q_19] := List.mem_append_right _ (List.mem_singleton.mpr rfl)
    have o_q_19 : Ob f_20 q_19 6 := by rw [ef_20]; exact ⟨_, va_up_self _ _ _, rfl⟩
    refine lv_dup hx hb dX5_makeRule_57 rfl ?_
    refine lv_aload_n hx hb dX5_makeRule_58 rfl (lv_at hl 0 rfl) ?_
    refine q_geti (ci := 4) (C := RX5) (T := TX5) (N := 10) hx hb hts (fun w h => List.mem_cons_of_mem _ (mfX50 w h)) hown hK hw m_a0 o_a0 rfl 7 (by decide) (hts _ (List.mem_cons_of_mem _ (mr6 _ (List.mem_of_getElem? (i := 8) rfl)))) (fun _ h => h) rfl dX5_makeRule_59 (fun x_21 lx_21 ux_21 ex_21 => ?_)
    have bx_21 : -1 ≤ x_21 ∧ x_21 ≤ 999 := by rw [ex_21]; exact hg.1 _ mg_a0 4 7 o_a0
    refine lv_iload_n hx hb dX5_makeRule_62 rfl (lv_at hl 1 rfl) ?_
    refine lv_aload_n hx hb dX5_makeRule_63 rfl (lv_at hl 0 rfl) ?_
    refine q_geti (ci := 4) (C := RX5) (T := TX5) (N := 10) hx hb hts (fun w h => List.mem_cons_of_mem _ (mfX50 w h)) hown hK hw m_a0 o_a0 rfl 8 (by decide) (hts _ (List.mem_cons_of_mem _ (mr6 _ (List.mem_of_getElem? (i := 9) rfl)))) (fun _ h => h) rfl dX5_makeRule_64 (fun x_22 lx_22 ux_22 ex_22 => ?_)
    refine q_call_v hA hK hw (va_runI (As := [.int (iI x_21), .int (iI x1), .int (iI x_22)]) (rest := [.ref q_19]) ⟨hx, hb, hml, hown, hts⟩ (c_X8_init zo l D cy (L0 ++ [q_19]) f_20 q_19 x_21 lx_21 ux_21 x1 lx1 ux1 x_22 lx_22 ux_22 m_q_19 o_q_19 (L0) hM hg _) (cwI 3 hts (gT (inC (mr13 _ (List.mem_of_getElem? (i := 6) rfl)))) rfl rfl rfl (hts _ (List.mem_cons_of_mem _ (mr12 _ (List.mem_of_getElem? (i := 15) rfl)))) (hts _ (List.mem_cons_of_mem _ (mr13 _ (List.mem_of_getElem? (i := 4) rfl)))) (hts _ (List.mem_cons_of_mem _ (mr13 _ (List.mem_of_getElem? (i := 5) rfl)))) rfl (by decide +kernel) ⟨Nat.le_of_ble_eq_true rfl, Nat.le_of_ble_eq_true rfl⟩) (Wd.preS zo hA hZ hw hK) rfl rfl hl.1 rfl (lv_room (Nat.le_of_ble_eq_true rfl)) dX5_makeRule_67 ⟨Nat.le_of_ble_eq_true rfl, Nat.le_of_ble_eq_true rfl⟩) (fun L1 f_24 H locs ex_23 hw => ?_)
    obtain ⟨rfl, hg, hX, ex_23⟩ := ex_23
    have hk1 : ∀ a ∈ L0, Ob f0 a 7 → fI f_24 a 1 = fI f0 a 1 := fun a m o => Eq.trans (fI_V (hX.2.1 a 1 (hE.1 a m 7 o))) (hk1 a m o)
    have hE := hE.trans hs (hX.ey.al _)
    have o_a0 := hX.1.1 _ _ o_a0
    have o_q_19 := hX.1.1 _ _ o_q_19
    have ex_23 := ex_23.2
    have hg := hg.addOb o_q_19 (fcond_6 ex_23) rcond_6
    exact q_ret_r hx hb hr hlocks hK hAe hw (Nat.le_of_ble_eq_true rfl) (Nat.le_of_ble_eq_true rfl) dX5_makeRule_70 (by exact ⟨hs, hg, hE, hk1, m_q_19, Or.inr (Or.inr (Or.inr o_q_19))⟩)
set_option maxHeartbeats 4000000 in
set_option maxRecDepth 100000 in
theorem c_X5_readSpan_k {Z : Zt} (zo : Zok Z) (l : Launch) (D : va_G) (cy : Cy) (L0 : List Nat) (f0 : Nat → va_E) (a0 : Nat) (a1 : Nat) (m_a0 : a0 ∈ L0) (o_a0 : Ob f0 a0 4) (m_a1 : a1 ∈ L0) (o_a1 : Ob f0 a1 0) (hg : GI cy L0 f0) : Ci Z l yX5_readSpan (Cond.code yX5_readSpan cX5_readSpan 3 (some .boolean) :: TB) ({ frames := 7, cells := 1, slots := 7, locals := 151 } : Room) 1 7 D (tq cy) [.ref a0, .ref a1] L0 f0 (fun (r : Int) (L1 : List Nat) (f1 : Nat → va_E) => (∀ x ∈ L0, x ∈ L1) ∧ GI cy L1 f1 ∧ Al cy L0 f0 f1 ∧ ((∀ a ∈ L0, Ob f0 a 7 → fI f1 a 1 = fI f0 a 1) ∧ (0 ≤ r ∧ r ≤ 1))) := by
  refine Ci.enter (cc := cX5_readSpan) (n := 3) rfl (plainFor_of_name (by decide)) (Nat.le_of_ble_eq_true rfl) ?_
  intro p e s m below meth c ls A hx hb hr hts hown hlocks hnm hml hK hA hAe hw hZ hl
  have hown : s.vm.findClass RX5 = some m.cls := hown
  have hl : lv_has ls 3 [(0, .ref a0), (1, .ref a1)] := hl
  have hN : ZN s := (zo.2.2.2.2 _ _ _ hZ).2
  have hs : ∀ x ∈ L0, x ∈ L0 := fun _ h => h
  have hE : Al cy L0 f0 f0 := Al.refl cy L0 f0
  have hk1 : ∀ a ∈ L0, Ob f0 a 7 → fI f0 a 1 = fI f0 a 1 := fun _ _ _ => rfl
  refine lv_aload_n hx hb dX5_readSpan_0 rfl (lv_at hl 0 rfl) ?_
  obtain ⟨t_1, v_t_1, h_t_1⟩ : ∃ q v : Nat, ∀ (A : Nat → Prop) (U : State) (H : Heap), Z A U H → vk_R RX5 127 "from" q U ∧ Tx [102, 114, 111, 109] q v A U H := ztx_14 zo
  obtain ⟨b_t_1, eb_t_1⟩ : ∃ b : List Int32, b = [102, 114, 111, 109] := ⟨_, rfl⟩
  have nb_t_1 : Asc b_t_1 := by rw [eb_t_1]; exact ⟨by decide, by decide +kernel⟩
  have tx_t_1 : ∀ (A : Nat → Prop) (U : State) (H : Heap), Z A U H → Tx b_t_1 t_1 v_t_1 A U H := fun A U H h => by rw [eb_t_1]; exact (h_t_1 A U H h).2
  refine va_ldcS hx hb hown (h_t_1 _ _ _ hZ).1 dX5_readSpan_1 ?_
  refine q_call_i hA hK hw (va_runV (As := [.ref t_1]) (rest := []) ⟨hx, hb, hml, hown, hts⟩ (c_X5_require zo l D cy L0 f0 a0 t_1 m_a0 o_a0 b_t_1 v_t_1 nb_t_1 tx_t_1 hg _) (cwV 1 hts (gT (inV (mr7 _ (List.mem_of_getElem? (i := 17) rfl)) (mr7 _ (List.mem_of_getElem? (i := 18) rfl)) (mr7 _ (List.mem_of_getElem? (i := 19) rfl)) (mr5 _ (List.mem_of_getElem? (i := 18) rfl)) (mr7 _ (List.mem_of_getElem? (i := 20) rfl)))) rfl rfl rfl (by decide +kernel) ⟨Nat.le_of_ble_eq_true rfl, Nat.le_of_ble_eq_true rfl⟩) (Wd.preV zo hA hZ hw hK m_a0 o_a0 rfl) rfl rfl hl.1 rfl (lv_room (Nat.le_of_ble_eq_true rfl)) dX5_readSpan_3 ⟨Nat.le_of_ble_eq_true rfl, Nat.le_of_ble_eq_true rfl⟩) (fun x_2 L1 f_3 H locs lx_2 ux_2 ex_2 hw => ?_)
  obtain ⟨rfl, hg, hX, ex_2⟩ := ex_2
  have hk1 : ∀ a ∈ L0, Ob f0 a 7 → fI f_3 a 1 = fI f0 a 1 := fun a m o => Eq.trans (fI_V (hX.2.1 a 1 (hE.1 a m 7 o))) (hk1 a m o)
  have hE := hE.trans hs (hX.ey.al _)
  have o_a0 := hX.1.1 _ _ o_a0
  have o_a1 := hX.1.1 _ _ o_a1
  refine q_if_ne (tgt := 11) hx hb dX5_readSpan_6 (by decide) ⟨lx_2, ux_2⟩ (fun c6 => ?_) (fun c6 => ?_)
  · refine lv_aload_n hx hb dX5_readSpan_11 rfl (lv_at hl 0 rfl) ?_
    refine q_call_i hA hK hw (va_runV (As := []) (rest := []) ⟨hx, hb, hml, hown, hts⟩ (c_X5_readDate zo l D cy L0 f_3 a0 m_a0 o_a0 hg _) (cwV 0 hts (gT (inV (mr11 _ (List.mem_of_getElem? (i := 15) rfl)) (mr11 _ (List.mem_of_getElem? (i := 16) rfl)) (mr11 _ (List.mem_of_getElem? (i := 17) rfl)) (mr5 _ (List.mem_of_getElem? (i := 18) rfl)) (mr11 _ (List.mem_of_getElem? (i := 18) rfl)))) rfl rfl rfl (by decide +kernel) ⟨Nat.le_of_ble_eq_true rfl, Nat.le_of_ble_eq_true rfl⟩) (Wd.preV zo hA hZ hw hK m_a0 o_a0 rfl) rfl rfl hl.1 rfl (lv_room (Nat.le_of_ble_eq_true rfl)) dX5_readSpan_12 ⟨Nat.le_of_ble_eq_true rfl, Nat.le_of_ble_eq_true rfl⟩) (fun x_4 L1 f_5 H locs lx_4 ux_4 ex_4 hw => ?_)
    obtain ⟨rfl, hg, hX, ex_4⟩ := ex_4
    have hk1 : ∀ a ∈ L0, Ob f0 a 7 → fI f_5 a 1 = fI f0 a 1 := fun a m o => Eq.trans (fI_V (hX.2.1 a 1 (hE.1 a m 7 o))) (hk1 a m o)
    have hE := hE.trans hs (hX.ey.al _)
    have o_a0 := hX.1.1 _ _ o_a0
    have o_a1 := hX.1.1 _ _ o_a1
    refine lv_istore_n (lv' := [(2, .int (iI x_4)), (0, .ref a0), (1, .ref a1)]) hx hb dX5_readSpan_15 rfl hl (by decide) rfl (fun ls hl => ?_)
    refine lv_iload_n hx hb dX5_readSpan_16 rfl (lv_at hl 0 rfl) ?_
    refine q_iconst hx hb dX5_readSpan_17 ?_
    refine q_icmp_ne (tgt := 23) hx hb dX5_readSpan_18 (by decide) ⟨lx_4, ux_4⟩ ⟨by decide, by decide⟩ (fun c18 => ?_) (fun c18 => ?_)
    · refine lv_aload_n hx hb dX5_readSpan_23 rfl (lv_at hl 2 rfl) ?_
      refine lv_aload_n hx hb dX5_readSpan_24 rfl (lv_at hl 1 rfl) ?_
      refine lv_iload_n hx hb dX5_readSpan_25 rfl (lv_at hl 0 rfl) ?_
      refine q_call_r hA hK hw (va_runV (As := [.int (iI x_4)]) (rest := [.ref a1]) ⟨hx, hb, hml, hown, hts⟩ (c_X5_makeRule_k zo l D cy L0 f_5 a0 x_4 lx_4 ux_4 m_a0 o_a0 hg _) (cwV 1 hts (gT (inV (mr12 _ (List.mem_of_getElem? (i := 5) rfl)) (mr12 _ (List.mem_of_getElem? (i := 6) rfl)) (mr12 _ (List.mem_of_getElem? (i := 7) rfl)) (mr5 _ (List.mem_of_getElem? (i := 18) rfl)) (mr12 _ (List.mem_of_getElem? (i := 8) rfl)))) rfl rfl rfl (by decide +kernel) ⟨Nat.le_of_ble_eq_true rfl, Nat.le_of_ble_eq_true rfl⟩) (Wd.preV zo hA hZ hw hK m_a0 o_a0 rfl) rfl rfl hl.1 rfl (lv_room (Nat.le_of_ble_eq_true rfl)) dX5_readSpan_26 ⟨Nat.le_of_ble_eq_true rfl, Nat.le_of_ble_eq_true rfl⟩) (fun x_6 L_8 f_7 H locs ex_6 hw => ?_)
      obtain ⟨hs1, hg, hX, ex_6⟩ := ex_6
      obtain ⟨ek, ex_6⟩ := ex_6
      have hk1 : ∀ a ∈ L0, Ob f0 a 7 → fI f_7 a 1 = fI f0 a 1 := fun a m o => Eq.trans (ek a (hs a m) (hE.1 a m 7 o)) (hk1 a m o)
      have hE := hE.trans hs (hX)
      have o_a0 := hX.1 _ m_a0 _ o_a0
      have o_a1 := hX.1 _ m_a1 _ o_a1
      have m_a0 := hs1 _ m_a0
      have m_a1 := hs1 _ m_a1
      have hs : ∀ x ∈ L0, x ∈ L_8 := fun x h => hs1 x (hs x h)
      obtain ⟨m_x_6, o_x_6⟩ := ex_6
      refine q_call_v hA hK hw (va_runV (As := [.ref x_6]) (rest := []) ⟨hx, hb, hml, hown, hts⟩ (c_X0_begin zo l D cy L_8 f_7 a1 x_6 m_a1 o_a1 m_x_6 o_x_6 hg _) (cwV 1 hts (gT (inV (mr14 _ (List.mem_of_getElem? (i := 1) rfl)) (mr14 _ (List.mem_of_getElem? (i := 2) rfl)) (mr14 _ (List.mem_of_getElem? (i := 3) rfl)) (mr2 _ (List.mem_of_getElem? (i := 9) rfl)) (mr14 _ (List.mem_of_getElem? (i := 4) rfl)))) rfl rfl rfl (by decide +kernel) ⟨Nat.le_of_ble_eq_true rfl, Nat.le_of_ble_eq_true rfl⟩) (Wd.preV zo hA hZ hw hK m_a1 o_a1 rfl) rfl rfl hl.1 rfl (lv_room (Nat.le_of_ble_eq_true rfl)) dX5_readSpan_29 ⟨Nat.le_of_ble_eq_true rfl, Nat.le_of_ble_eq_true rfl⟩) (fun L1 f_10 H locs ex_9 hw => ?_)
      obtain ⟨rfl, hg, hX, ex_9⟩ := ex_9
      have hk1 : ∀ a ∈ L0, Ob f0 a 7 → fI f_10 a 1 = fI f0 a 1 := fun a m o => Eq.trans (fI_V (hX.2.1 a 1 (hE.1 a m 7 o))) (hk1 a m o)
      have hE := hE.trans hs (hX.ey.al _)
      have o_a0 := hX.1.1 _ _ o_a0
      have o_a1 := hX.1.1 _ _ o_a1
      refine lv_aload_n hx hb dX5_readSpan_32 rfl (lv_at hl 1 rfl) ?_
      obtain ⟨t_11, v_t_11, h_t_11⟩ : ∃ q v : Nat, ∀ (A : Nat → Prop) (U : State) (H : Heap), Z A U H → vk_R RX5 140 "times" q U ∧ Tx [116, 105, 109, 101, 115] q v A U H := ztx_15 zo
      obtain ⟨b_t_11, eb_t_11⟩ : ∃ b : List Int32, b = [116, 105, 109, 101, 115] := ⟨_, rfl⟩
      have nb_t_11 : Asc b_t_11 := by rw [eb_t_11]; exact ⟨by decide, by decide +kernel⟩
      have tx_t_11 : ∀ (A : Nat → Prop) (U : State) (H : Heap), Z A U H → Tx b_t_11 t_11 v_t_11 A U H := fun A U H h => by rw [eb_t_11]; exact (h_t_11 A U H h).2
      refine va_ldcS hx hb hown (h_t_11 _ _ _ hZ).1 dX5_readSpan_33 ?_
      refine q_call_i hA hK hw (va_runV (As := [.ref t_11]) (rest := []) ⟨hx, hb, hml, hown, hts⟩ (c_X5_take zo l D cy L_8 f_10 a0 t_11 m_a0 o_a0 b_t_11 v_t_11 nb_t_11 tx_t_11 hg _) (cwV 1 hts (gT (inV (mr7 _ (List.mem_of_getElem? (i := 21) rfl)) (mr7 _ (List.mem_of_getElem? (i := 22) rfl)) (mr7 _ (List.mem_of_getElem? (i := 23) rfl)) (mr5 _ (List.mem_of_getElem? (i := 18) rfl)) (mr8 _ (List.mem_of_getElem? (i := 0) rfl)))) rfl rfl rfl (by decide +kernel) ⟨Nat.le_of_ble_eq_true rfl, Nat.le_of_ble_eq_true rfl⟩) (Wd.preV zo hA hZ hw hK m_a0 o_a0 rfl) rfl rfl hl.1 rfl (lv_room (Nat.le_of_ble_eq_true rfl)) dX5_readSpan_35 ⟨Nat.le_of_ble_eq_true rfl, Nat.le_of_ble_eq_true rfl⟩) (fun x_12 L1 f_13 H locs lx_12 ux_12 ex_12 hw => ?_)
      obtain ⟨rfl, hg, hX, ex_12⟩ := ex_12
      have hk1 : ∀ a ∈ L0, Ob f0 a 7 → fI f_13 a 1 = fI f0 a 1 := fun a m o => Eq.trans (fI_V (hX.2.1 a 1 (hE.1 a m 7 o))) (hk1 a m o)
      have hE := hE.trans hs (hX.ey.al _)
      have o_a0 := hX.1.1 _ _ o_a0
      have o_a1 := hX.1.1 _ _ o_a1
      refine q_if_eq (tgt := 67) hx hb dX5_readSpan_38 (by decide) ⟨lx_12, ux_12⟩ (fun c38 => ?_) (fun c38 => ?_)
      · refine lv_aload_n hx hb dX5_readSpan_67 rfl (lv_at hl 1 rfl) ?_
        obtain ⟨t_14, v_t_14, h_t_14⟩ : ∃ q v : Nat, ∀ (A : Nat → Prop) (U : State) (H : Heap), Z A U H → vk_R RX5 144 "until" q U ∧ Tx [117, 110, 116, 105, 108] q v A U H := ztx_16 zo
        obtain ⟨b_t_14, eb_t_14⟩ : ∃ b : List Int32, b = [117, 110, 116, 105, 108] := ⟨_, rfl⟩
        have nb_t_14 : Asc b_t_14 := by rw [eb_t_14]; exact ⟨by decide, by decide +kernel⟩
        have tx_t_14 : ∀ (A : Nat → Prop) (U : State) (H : Heap), Z A U H → Tx b_t_14 t_14 v_t_14 A U H := fun A U H h => by rw [eb_t_14]; exact (h_t_14 A U H h).2
        refine va_ldcS hx hb hown (h_t_14 _ _ _ hZ).1 dX5_readSpan_68 ?_
        refine q_call_i hA hK hw (va_runV (As := [.ref t_14]) (rest := []) ⟨hx, hb, hml, hown, hts⟩ (c_X5_take zo l D cy L_8 f_13 a0 t_14 m_a0 o_a0 b_t_14 v_t_14 nb_t_14 tx_t_14 hg _) (cwV 1 hts (gT (inV (mr7 _ (List.mem_of_getElem? (i := 21) rfl)) (mr7 _ (List.mem_of_getElem? (i := 22) rfl)) (mr7 _ (List.mem_of_getElem? (i := 23) rfl)) (mr5 _ (List.mem_of_getElem? (i := 18) rfl)) (mr8 _ (List.mem_of_getElem? (i := 0) rfl)))) rfl rfl rfl (by decide +kernel) ⟨Nat.le_of_ble_eq_true rfl, Nat.le_of_ble_eq_true rfl⟩) (Wd.preV zo hA hZ hw hK m_a0 o_a0 rfl) rfl rfl hl.1 rfl (lv_room (Nat.le_of_ble_eq_true rfl)) dX5_readSpan_70 ⟨Nat.le_of_ble_eq_true rfl, Nat.le_of_ble_eq_true rfl⟩) (fun x_15 L1 f_16 H locs lx_15 ux_15 ex_15 hw => ?_)
        obtain ⟨rfl, hg, hX, ex_15⟩ := ex_15
        have hk1 : ∀ a ∈ L0, Ob f0 a 7 → fI f_16 a 1 = fI f0 a 1 := fun a m o => Eq.trans (fI_V (hX.2.1 a 1 (hE.1 a m 7 o))) (hk1 a m o)
        have hE := hE.trans hs (hX.ey.al _)
        have o_a0 := hX.1.1 _ _ o_a0
        have o_a1 := hX.1.1 _ _ o_a1
        refine q_if_eq (tgt := 85) hx hb dX5_readSpan_73 (by decide) ⟨lx_15, ux_15⟩ (fun c73 => ?_) (fun c73 => ?_)
        · refine q_iconst hx hb dX5_readSpan_85 ?_
          refine lv_goto (tgt := 90) hx hb dX5_readSpan_86 (by decide) ?_
          exact q_ret_z hx hb hr hlocks hK hAe hw (by omega) (Nat.le_of_ble_eq_true rfl) (Nat.le_of_ble_eq_true rfl) dX5_readSpan_90 (by exact ⟨hs, hg, hE, hk1, by first | trivial | omega⟩)
        · refine lv_aload_n hx hb dX5_readSpan_76 rfl (lv_at hl 1 rfl) ?_
          refine lv_aload_n hx hb dX5_readSpan_77 rfl (lv_at hl 2 rfl) ?_
          refine lv_iload_n hx hb dX5_readSpan_78 rfl (lv_at hl 0 rfl) ?_
          refine q_call_i hA hK hw (va_runV (As := [.ref a1, .int (iI x_4)]) (rest := []) ⟨hx, hb, hml, hown, hts⟩ (c_X5_readUntil zo l D cy L_8 f_16 a0 a1 x_4 lx_4 ux_4 m_a0 o_a0 m_a1 o_a1 hg _) (cwV 2 hts (gT (inV (mr14 _ (List.mem_of_getElem? (i := 10) rfl)) (mr14 _ (List.mem_of_getElem? (i := 11) rfl)) (mr14 _ (List.mem_of_getElem? (i := 12) rfl)) (mr5 _ (List.mem_of_getElem? (i := 18) rfl)) (mr14 _ (List.mem_of_getElem? (i := 13) rfl)))) rfl rfl rfl (by decide +kernel) ⟨Nat.le_of_ble_eq_true rfl, Nat.le_of_ble_eq_true rfl⟩) (Wd.preV zo hA hZ hw hK m_a0 o_a0 rfl) rfl rfl hl.1 rfl (lv_room (Nat.le_of_ble_eq_true rfl)) dX5_readSpan_79 ⟨Nat.le_of_ble_eq_true rfl, Nat.le_of_ble_eq_true rfl⟩) (fun x_17 L1 f_18 H locs lx_17 ux_17 ex_17 hw => ?_)
          obtain ⟨rfl, hg, hX, ex_17⟩ := ex_17
          have hk1 : ∀ a ∈ L0, Ob f0 a 7 → fI f_18 a 1 = fI f0 a 1 := fun a m o => Eq.trans (fI_V (hX.2.1 a 1 (hE.1 a m 7 o))) (hk1 a m o)
          have hE := hE.trans hs (hX.ey.al _)
          have o_a0 := hX.1.1 _ _ o_a0
          have o_a1 := hX.1.1 _ _ o_a1
          refine q_if_eq (tgt := 89) hx hb dX5_readSpan_82 (by decide) ⟨lx_17, ux_17⟩ (fun c82 => ?_) (fun c82 => ?_)
          · refine q_iconst hx hb dX5_readSpan_89 ?_
            exact q_ret_z hx hb hr hlocks hK hAe hw (by omega) (Nat.le_of_ble_eq_true rfl) (Nat.le_of_ble_eq_true rfl) dX5_readSpan_90 (by exact ⟨hs, hg, hE, hk1, by first | trivial | omega⟩)
          · refine q_iconst hx hb dX5_readSpan_85 ?_
            refine lv_goto (tgt := 90) hx hb dX5_readSpan_86 (by decide) ?_
            exact q_ret_z hx hb hr hlocks hK hAe hw (by omega) (Nat.le_of_ble_eq_true rfl) (Nat.le_of_ble_eq_true rfl) dX5_readSpan_90 (by exact ⟨hs, hg, hE, hk1, by first | trivial | omega⟩)
      · refine lv_aload_n hx hb dX5_readSpan_41 rfl (lv_at hl 2 rfl) ?_
        refine lv_aload_n hx hb dX5_readSpan_42 rfl (lv_at hl 1 rfl) ?_
        refine q_iconst hx hb dX5_readSpan_43 ?_
        refine q_sipush hx hb dX5_readSpan_44 rfl ?_
        refine q_call_i hA hK hw (va_runV (As := [.int (iI 1), .int (iI 999)]) (rest := [.ref a1]) ⟨hx, hb, hml, hown, hts⟩ (c_X5_takeNumber zo l D cy L_8 f_13 a0 1 (by decide) (by decide) 999 (by decide) (by decide) m_a0 o_a0 hg _) (cwV 2 hts (gT (inV (mr10 _ (List.mem_of_getElem? (i := 10) rfl)) (mr10 _ (List.mem_of_getElem? (i := 11) rfl)) (mr10 _ (List.mem_of_getElem? (i := 12) rfl)) (mr5 _ (List.mem_of_getElem? (i := 18) rfl)) (mr10 _ (List.mem_of_getElem? (i := 13) rfl)))) rfl rfl rfl (by decide +kernel) ⟨Nat.le_of_ble_eq_true rfl, Nat.le_of_ble_eq_true rfl⟩) (Wd.preV zo hA hZ hw hK m_a0 o_a0 rfl) rfl rfl hl.1 rfl (lv_room (Nat.le_of_ble_eq_true rfl)) dX5_readSpan_47 ⟨Nat.le_of_ble_eq_true rfl, Nat.le_of_ble_eq_true rfl⟩) (fun x_19 L1 f_20 H locs lx_19 ux_19 ex_19 hw => ?_)
        obtain ⟨rfl, hg, hX, ex_19⟩ := ex_19
        have hk1 : ∀ a ∈ L0, Ob f0 a 7 → fI f_20 a 1 = fI f0 a 1 := fun a m o => Eq.trans (fI_V (hX.2.1 a 1 (hE.1 a m 7 o))) (hk1 a m o)
        have hE := hE.trans hs (hX.ey.al _)
        have o_a0 := hX.1.1 _ _ o_a0
        have o_a1 := hX.1.1 _ _ o_a1
        refine q_puti (ci := 0) (C := RX0) (T := TX0) (N := 15) hx hb hts (fun w h => List.mem_cons_of_mem _ (mfX00 w h)) hown hK hw m_a1 o_a1 rfl 5 (by decide) (hts _ (List.mem_cons_of_mem _ (mr11 _ (List.mem_of_getElem? (i := 14) rfl)))) (fun _ h => h) tyX0 tyX0_ok nmX0 rfl (ty := .int) (by decide +kernel) rfl rfl dX5_readSpan_50 (fun H locs hw => ?_)
        have oo := o_a1
        obtain ⟨f_21, ef_21⟩ : ∃ g : Nat → va_E, g = pU f_20 a1 5 (.int (iI x_19)) := ⟨_, rfl⟩
        have hX : Ex cy f_20 f_21 := by rw [ef_21]; exact Ex_pU oo rfl rfl (by decide)
        have hg : GI cy L_8 f_21 := by rw [ef_21]; exact hg.putI oo rfl ⟨lx_19, ux_19⟩ trivial
        rw [← ef_21] at hw
        have hk1 : ∀ a ∈ L0, Ob f0 a 7 → fI f_21 a 1 = fI f0 a 1 := fun a m o => Eq.trans (fI_V (hX.2.1 a 1 (hE.1 a m 7 o))) (hk1 a m o)
        have hE := hE.trans hs (hX.ey.al _)
        have o_a0 := hX.1.1 _ _ o_a0
        have o_a1 := hX.1.1 _ _ o_a1
        have vf_21 : fI f_21 a1 5 = x_19 := by rw [ef_21]; exact fI_pU_self oo rfl ⟨lx_19, ux_19⟩
        refine lv_aload_n hx hb dX5_readSpan_53 rfl (lv_at hl 2 rfl) ?_
        refine q_geti (ci := 0) (C := RX0) (T := TX0) (N := 15) hx hb hts (fun w h => List.mem_cons_of_mem _ (mfX00 w h)) hown hK hw m_a1 o_a1 rfl 5 (by decide) (hts _ (List.mem_cons_of_mem _ (mr11 _ (List.mem_of_getElem? (i := 14) rfl)))) (fun _ h => h) rfl dX5_readSpan_54 (fun x_22 lx_22 ux_22 ex_22 => ?_)
        refine q_iconst hx hb dX5_readSpan_57 ?_
        refine q_icmp_eq (tgt := 65) hx hb dX5_readSpan_58 (by decide) ⟨lx_22, ux_22⟩ ⟨by decide, by decide⟩ (fun c58 => ?_) (fun c58 => ?_)
        · refine q_iconst hx hb dX5_readSpan_65 ?_
          exact q_ret_z hx hb hr hlocks hK hAe hw (by omega) (Nat.le_of_ble_eq_true rfl) (Nat.le_of_ble_eq_true rfl) dX5_readSpan_66 (by exact ⟨hs, hg, hE, hk1, by first | trivial | omega⟩)
        · refine q_iconst hx hb dX5_readSpan_61 ?_
          refine lv_goto (tgt := 66) hx hb dX5_readSpan_62 (by decide) ?_
          exact q_ret_z hx hb hr hlocks hK hAe hw (by omega) (Nat.le_of_ble_eq_true rfl) (Nat.le_of_ble_eq_true rfl) dX5_readSpan_66 (by exact ⟨hs, hg, hE, hk1, by first | trivial | omega⟩)
    · refine q_iconst hx hb dX5_readSpan_21 ?_
      exact q_ret_z hx hb hr hlocks hK hAe hw (by omega) (Nat.le_of_ble_eq_true rfl) (Nat.le_of_ble_eq_true rfl) dX5_readSpan_22 (by exact ⟨hs, hg, hE, hk1, by first | trivial | omega⟩)
  · refine q_iconst hx hb dX5_readSpan_9 ?_
    exact q_ret_z hx hb hr hlocks hK hAe hw (by omega) (Nat.le_of_ble_eq_true rfl) (Nat.le_of_ble_eq_true rfl) dX5_readSpan_10 (by exact ⟨hs, hg, hE, hk1, by first | trivial | omega⟩)
set_option maxHeartbeats 4000000 in
set_option maxRecDepth 100000 in
theorem c_X5_read_k {Z : Zt} (zo : Zok Z) (l : Launch) (D : va_G) (cy : Cy) (L0 : List Nat) (f0 : Nat → va_E) (a0 : Nat) (a1 : Nat) (m_a0 : a0 ∈ L0) (o_a0 : Ob f0 a0 4) (m_a1 : a1 ∈ L0) (o_a1 : Ob f0 a1 0) (hg : GI cy L0 f0) : Ci Z l yX5_read (Cond.code yX5_read cX5_read 2 (some .int) :: TB) ({ frames := 9, cells := 1, slots := 7, locals := 191 } : Room) 1 7 D (tq cy) [.ref a0, .ref a1] L0 f0 (fun (r : Int) (L1 : List Nat) (f1 : Nat → va_E) => (∀ x ∈ L0, x ∈ L1) ∧ GI cy L1 f1 ∧ Al cy L0 f0 f1 ∧ ((∀ a ∈ L0, Ob f0 a 7 → fI f1 a 1 = fI f0 a 1) ∧ True)) := by
  refine Ci.enter (cc := cX5_read) (n := 2) rfl (plainFor_of_name (by decide)) (Nat.le_of_ble_eq_true rfl) ?_
  intro p e s m below meth c ls A hx hb hr hts hown hlocks hnm hml hK hA hAe hw hZ hl
  have hown : s.vm.findClass RX5 = some m.cls := hown
  have hl : lv_has ls 2 [(0, .ref a0), (1, .ref a1)] := hl
  have hN : ZN s := (zo.2.2.2.2 _ _ _ hZ).2
  have hs : ∀ x ∈ L0, x ∈ L0 := fun _ h => h
  have hE : Al cy L0 f0 f0 := Al.refl cy L0 f0
  have hk1 : ∀ a ∈ L0, Ob f0 a 7 → fI f0 a 1 = fI f0 a 1 := fun _ _ _ => rfl
  refine lv_aload_n hx hb dX5_read_0 rfl (lv_at hl 0 rfl) ?_
  refine q_call_v hA hK hw (va_runV (As := []) (rest := []) ⟨hx, hb, hml, hown, hts⟩ (c_X5_step zo l D cy L0 f0 a0 m_a0 o_a0 hg _) (cwV 0 hts (gT (inV (mr7 _ (List.mem_of_getElem? (i := 2) rfl)) (mr7 _ (List.mem_of_getElem? (i := 3) rfl)) (mr7 _ (List.mem_of_getElem? (i := 4) rfl)) (mr5 _ (List.mem_of_getElem? (i := 18) rfl)) (mr7 _ (List.mem_of_getElem? (i := 5) rfl)))) rfl rfl rfl (by decide +kernel) ⟨Nat.le_of_ble_eq_true rfl, Nat.le_of_ble_eq_true rfl⟩) (Wd.preV zo hA hZ hw hK m_a0 o_a0 rfl) rfl rfl hl.1 rfl (lv_room (Nat.le_of_ble_eq_true rfl)) dX5_read_1 ⟨Nat.le_of_ble_eq_true rfl, Nat.le_of_ble_eq_true rfl⟩) (fun L1 f_2 H locs ex_1 hw => ?_)
  obtain ⟨rfl, hg, hX, ex_1⟩ := ex_1
  have hk1 : ∀ a ∈ L0, Ob f0 a 7 → fI f_2 a 1 = fI f0 a 1 := fun a m o => Eq.trans (fI_V (hX.2.1 a 1 (hE.1 a m 7 o))) (hk1 a m o)
  have hE := hE.trans hs (hX.ey.al _)
  have o_a0 := hX.1.1 _ _ o_a0
  have o_a1 := hX.1.1 _ _ o_a1
  refine lv_aload_n hx hb dX5_read_4 rfl (lv_at hl 0 rfl) ?_
  refine lv_aload_n hx hb dX5_read_5 rfl (lv_at hl 1 rfl) ?_
  refine q_call_i hA hK hw (va_runV (As := [.ref a1]) (rest := []) ⟨hx, hb, hml, hown, hts⟩ (c_X5_readPlace zo l D cy L0 f_2 a0 a1 m_a0 o_a0 m_a1 o_a1 hg _) (cwV 1 hts (gT (inV (mr7 _ (List.mem_of_getElem? (i := 10) rfl)) (mr7 _ (List.mem_of_getElem? (i := 11) rfl)) (mr7 _ (List.mem_of_getElem? (i := 12) rfl)) (mr5 _ (List.mem_of_getElem? (i := 18) rfl)) (mr7 _ (List.mem_of_getElem? (i := 13) rfl)))) rfl rfl rfl (by decide +kernel) ⟨Nat.le_of_ble_eq_true rfl, Nat.le_of_ble_eq_true rfl⟩) (Wd.preV zo hA hZ hw hK m_a0 o_a0 rfl) rfl rfl hl.1 rfl (lv_room (Nat.le_of_ble_eq_true rfl)) dX5_read_6 ⟨Nat.le_of_ble_eq_true rfl, Nat.le_of_ble_eq_true rfl⟩) (fun x_3 L1 f_4 H locs lx_3 ux_3 ex_3 hw => ?_)
  obtain ⟨rfl, hg, hX, ex_3⟩ := ex_3
  have hk1 : ∀ a ∈ L0, Ob f0 a 7 → fI f_4 a 1 = fI f0 a 1 := fun a m o => Eq.trans (fI_V (hX.2.1 a 1 (hE.1 a m 7 o))) (hk1 a m o)
  have hE := hE.trans hs (hX.ey.al _)
  have o_a0 := hX.1.1 _ _ o_a0
  have o_a1 := hX.1.1 _ _ o_a1
  refine q_if_eq (tgt := 47) hx hb dX5_read_9 (by decide) ⟨lx_3, ux_3⟩ (fun c9 => ?_) (fun c9 => ?_)
  · refine lv_aload_n hx hb dX5_read_47 rfl (lv_at hl 0 rfl) ?_
    refine q_geti (ci := 4) (C := RX5) (T := TX5) (N := 10) hx hb hts (fun w h => List.mem_cons_of_mem _ (mfX50 w h)) hown hK hw m_a0 o_a0 rfl 5 (by decide) (hts _ (List.mem_cons_of_mem _ (mr6 _ (List.mem_of_getElem? (i := 6) rfl)))) (fun _ h => h) rfl dX5_read_48 (fun x_5 lx_5 ux_5 ex_5 => ?_)
    exact q_ret_i hx hb hr hlocks hK hAe hw ⟨lx_5, ux_5⟩ (Nat.le_of_ble_eq_true rfl) (Nat.le_of_ble_eq_true rfl) dX5_read_51 (by exact ⟨hs, hg, hE, hk1, by first | trivial | omega⟩)
  · refine lv_aload_n hx hb dX5_read_12 rfl (lv_at hl 0 rfl) ?_
    refine q_call_i hA hK hw (va_runV (As := []) (rest := []) ⟨hx, hb, hml, hown, hts⟩ (c_X5_readRule zo l D cy L0 f_4 a0 m_a0 o_a0 hg _) (cwV 0 hts (gT (inV (mr10 _ (List.mem_of_getElem? (i := 14) rfl)) (mr10 _ (List.mem_of_getElem? (i := 15) rfl)) (mr10 _ (List.mem_of_getElem? (i := 16) rfl)) (mr5 _ (List.mem_of_getElem? (i := 18) rfl)) (mr10 _ (List.mem_of_getElem? (i := 17) rfl)))) rfl rfl rfl (by decide +kernel) ⟨Nat.le_of_ble_eq_true rfl, Nat.le_of_ble_eq_true rfl⟩) (Wd.preV zo hA hZ hw hK m_a0 o_a0 rfl) rfl rfl hl.1 rfl (lv_room (Nat.le_of_ble_eq_true rfl)) dX5_read_13 ⟨Nat.le_of_ble_eq_true rfl, Nat.le_of_ble_eq_true rfl⟩) (fun x_6 L1 f_7 H locs lx_6 ux_6 ex_6 hw => ?_)
    obtain ⟨rfl, hg, hX, ex_6⟩ := ex_6
    have hk1 : ∀ a ∈ L0, Ob f0 a 7 → fI f_7 a 1 = fI f0 a 1 := fun a m o => Eq.trans (fI_V (hX.2.1 a 1 (hE.1 a m 7 o))) (hk1 a m o)
    have hE := hE.trans hs (hX.ey.al _)
    have o_a0 := hX.1.1 _ _ o_a0
    have o_a1 := hX.1.1 _ _ o_a1
    refine q_if_eq (tgt := 47) hx hb dX5_read_16 (by decide) ⟨lx_6, ux_6⟩ (fun c16 => ?_) (fun c16 => ?_)
    · refine lv_aload_n hx hb dX5_read_47 rfl (lv_at hl 0 rfl) ?_
      refine q_geti (ci := 4) (C := RX5) (T := TX5) (N := 10) hx hb hts (fun w h => List.mem_cons_of_mem _ (mfX50 w h)) hown hK hw m_a0 o_a0 rfl 5 (by decide) (hts _ (List.mem_cons_of_mem _ (mr6 _ (List.mem_of_getElem? (i := 6) rfl)))) (fun _ h => h) rfl dX5_read_48 (fun x_8 lx_8 ux_8 ex_8 => ?_)
      exact q_ret_i hx hb hr hlocks hK hAe hw ⟨lx_8, ux_8⟩ (Nat.le_of_ble_eq_true rfl) (Nat.le_of_ble_eq_true rfl) dX5_read_51 (by exact ⟨hs, hg, hE, hk1, by first | trivial | omega⟩)
    · refine lv_aload_n hx hb dX5_read_19 rfl (lv_at hl 0 rfl) ?_
      refine lv_aload_n hx hb dX5_read_20 rfl (lv_at hl 1 rfl) ?_
      refine q_call_i hA hK hw (va_runV (As := [.ref a1]) (rest := []) ⟨hx, hb, hml, hown, hts⟩ (c_X5_readSpan_k zo l D cy L0 f_7 a0 a1 m_a0 o_a0 m_a1 o_a1 hg _) (cwV 1 hts (gT (inV (mr11 _ (List.mem_of_getElem? (i := 10) rfl)) (mr11 _ (List.mem_of_getElem? (i := 11) rfl)) (mr11 _ (List.mem_of_getElem? (i := 12) rfl)) (mr5 _ (List.mem_of_getElem? (i := 18) rfl)) (mr11 _ (List.mem_of_getElem? (i := 13) rfl)))) rfl rfl rfl (by decide +kernel) ⟨Nat.le_of_ble_eq_true rfl, Nat.le_of_ble_eq_true rfl⟩) (Wd.preV zo hA hZ hw hK m_a0 o_a0 rfl) rfl rfl hl.1 rfl (lv_room (Nat.le_of_ble_eq_true rfl)) dX5_read_21 ⟨Nat.le_of_ble_eq_true rfl, Nat.le_of_ble_eq_true rfl⟩) (fun x_9 L_11 f_10 H locs lx_9 ux_9 ex_9 hw => ?_)
      obtain ⟨hs1, hg, hX, ex_9⟩ := ex_9
      obtain ⟨ek, ex_9⟩ := ex_9
      have hk1 : ∀ a ∈ L0, Ob f0 a 7 → fI f_10 a 1 = fI f0 a 1 := fun a m o => Eq.trans (ek a (hs a m) (hE.1 a m 7 o)) (hk1 a m o)
      have hE := hE.trans hs (hX)
      have o_a0 := hX.1 _ m_a0 _ o_a0
      have o_a1 := hX.1 _ m_a1 _ o_a1
      have m_a0 := hs1 _ m_a0
      have m_a1 := hs1 _ m_a1
      have hs : ∀ x ∈ L0, x ∈ L_11 := fun x h => hs1 x (hs x h)
      refine q_if_eq (tgt := 47) hx hb dX5_read_24 (by decide) ⟨lx_9, ux_9⟩ (fun c24 => ?_) (fun c24 => ?_)
      · refine lv_aload_n hx hb dX5_read_47 rfl (lv_at hl 0 rfl) ?_
        refine q_geti (ci := 4) (C := RX5) (T := TX5) (N := 10) hx hb hts (fun w h => List.mem_cons_of_mem _ (mfX50 w h)) hown hK hw m_a0 o_a0 rfl 5 (by decide) (hts _ (List.mem_cons_of_mem _ (mr6 _ (List.mem_of_getElem? (i := 6) rfl)))) (fun _ h => h) rfl dX5_read_48 (fun x_12 lx_12 ux_12 ex_12 => ?_)
        exact q_ret_i hx hb hr hlocks hK hAe hw ⟨lx_12, ux_12⟩ (Nat.le_of_ble_eq_true rfl) (Nat.le_of_ble_eq_true rfl) dX5_read_51 (by exact ⟨hs, hg, hE, hk1, by first | trivial | omega⟩)
      · refine lv_aload_n hx hb dX5_read_27 rfl (lv_at hl 0 rfl) ?_
        refine q_geti (ci := 4) (C := RX5) (T := TX5) (N := 10) hx hb hts (fun w h => List.mem_cons_of_mem _ (mfX50 w h)) hown hK hw m_a0 o_a0 rfl 2 (by decide) (hts _ (List.mem_cons_of_mem _ (mr6 _ (List.mem_of_getElem? (i := 3) rfl)))) (fun _ h => h) rfl dX5_read_28 (fun x_13 lx_13 ux_13 ex_13 => ?_)
        refine q_if_ne (tgt := 41) hx hb dX5_read_31 (by decide) ⟨lx_13, ux_13⟩ (fun c31 => ?_) (fun c31 => ?_)
        · refine lv_aload_n hx hb dX5_read_41 rfl (lv_at hl 0 rfl) ?_
          refine q_iconst hx hb dX5_read_42 ?_
          refine q_call_i hA hK hw (va_runV (As := [.int (iI 1)]) (rest := []) ⟨hx, hb, hml, hown, hts⟩ (c_X5_refuse zo l D cy L_11 f_10 a0 1 (by decide) (by decide) m_a0 o_a0 hg _) (cwV 1 hts (gT (inV (mr10 _ (List.mem_of_getElem? (i := 6) rfl)) (mr10 _ (List.mem_of_getElem? (i := 7) rfl)) (mr10 _ (List.mem_of_getElem? (i := 8) rfl)) (mr5 _ (List.mem_of_getElem? (i := 18) rfl)) (mr10 _ (List.mem_of_getElem? (i := 9) rfl)))) rfl rfl rfl (by decide +kernel) ⟨Nat.le_of_ble_eq_true rfl, Nat.le_of_ble_eq_true rfl⟩) (Wd.preV zo hA hZ hw hK m_a0 o_a0 rfl) rfl rfl hl.1 rfl (lv_room (Nat.le_of_ble_eq_true rfl)) dX5_read_43 ⟨Nat.le_of_ble_eq_true rfl, Nat.le_of_ble_eq_true rfl⟩) (fun x_14 L1 f_15 H locs lx_14 ux_14 ex_14 hw => ?_)
          obtain ⟨rfl, hg, hX, ex_14⟩ := ex_14
          have hk1 : ∀ a ∈ L0, Ob f0 a 7 → fI f_15 a 1 = fI f0 a 1 := fun a m o => Eq.trans (fI_V (hX.2.1 a 1 (hE.1 a m 7 o))) (hk1 a m o)
          have hE := hE.trans hs (hX.ey.al _)
          have o_a0 := hX.1.1 _ _ o_a0
          have o_a1 := hX.1.1 _ _ o_a1
          refine lv_pop hx hb dX5_read_46 rfl ?_
          refine lv_aload_n hx hb dX5_read_47 rfl (lv_at hl 0 rfl) ?_
          refine q_geti (ci := 4) (C := RX5) (T := TX5) (N := 10) hx hb hts (fun w h => List.mem_cons_of_mem _ (mfX50 w h)) hown hK hw m_a0 o_a0 rfl 5 (by decide) (hts _ (List.mem_cons_of_mem _ (mr6 _ (List.mem_of_getElem? (i := 6) rfl)))) (fun _ h => h) rfl dX5_read_48 (fun x_16 lx_16 ux_16 ex_16 => ?_)
          exact q_ret_i hx hb hr hlocks hK hAe hw ⟨lx_16, ux_16⟩ (Nat.le_of_ble_eq_true rfl) (Nat.le_of_ble_eq_true rfl) dX5_read_51 (by exact ⟨hs, hg, hE, hk1, by first | trivial | omega⟩)
        · refine lv_aload_n hx hb dX5_read_34 rfl (lv_at hl 1 rfl) ?_
          refine q_call_v hA hK hw (va_runV (As := []) (rest := []) ⟨hx, hb, hml, hown, hts⟩ (c_X0_settle zo l D cy L_11 f_10 a1 m_a1 o_a1 hg _) (cwV 0 hts (gT (inV (mr14 _ (List.mem_of_getElem? (i := 15) rfl)) (mr14 _ (List.mem_of_getElem? (i := 16) rfl)) (mr14 _ (List.mem_of_getElem? (i := 17) rfl)) (mr2 _ (List.mem_of_getElem? (i := 9) rfl)) (mr14 _ (List.mem_of_getElem? (i := 18) rfl)))) rfl rfl rfl (by decide +kernel) ⟨Nat.le_of_ble_eq_true rfl, Nat.le_of_ble_eq_true rfl⟩) (Wd.preV zo hA hZ hw hK m_a1 o_a1 rfl) rfl rfl hl.1 rfl (lv_room (Nat.le_of_ble_eq_true rfl)) dX5_read_35 ⟨Nat.le_of_ble_eq_true rfl, Nat.le_of_ble_eq_true rfl⟩) (fun L1 f_18 H locs ex_17 hw => ?_)
          obtain ⟨rfl, hg, hX, ex_17⟩ := ex_17
          have hk1 : ∀ a ∈ L0, Ob f0 a 7 → fI f_18 a 1 = fI f0 a 1 := fun a m o => Eq.trans (fI_V (hX.2.1 a 1 (hE.1 a m 7 o))) (hk1 a m o)
          have hE := hE.trans hs (hX.ey.al _)
          have o_a0 := hX.1.1 _ _ o_a0
          have o_a1 := hX.1.1 _ _ o_a1
          refine lv_goto (tgt := 47) hx hb dX5_read_38 (by decide) ?_
          refine lv_aload_n hx hb dX5_read_47 rfl (lv_at hl 0 rfl) ?_
          refine q_geti (ci := 4) (C := RX5) (T := TX5) (N := 10) hx hb hts (fun w h => List.mem_cons_of_mem _ (mfX50 w h)) hown hK hw m_a0 o_a0 rfl 5 (by decide) (hts _ (List.mem_cons_of_mem _ (mr6 _ (List.mem_of_getElem? (i := 6) rfl)))) (fun _ h => h) rfl dX5_read_48 (fun x_19 lx_19 ux_19 ex_19 => ?_)
          exact q_ret_i hx hb hr hlocks hK hAe hw ⟨lx_19, ux_19⟩ (Nat.le_of_ble_eq_true rfl) (Nat.le_of_ble_eq_true rfl) dX5_read_51 (by exact ⟨hs, hg, hE, hk1, by first | trivial | omega⟩)
set_option maxHeartbeats 4000000 in
set_option maxRecDepth 100000 in
theorem c_X9_book_k {Z : Zt} (zo : Zok Z) (l : Launch) (D : va_G) (cy : Cy) (L0 : List Nat) (f0 : Nat → va_E) (a0 : Nat) (m_a0 : a0 ∈ L0) (o_a0 : Ob f0 a0 7) (hg : GI cy L0 f0) : Ci Z l yX9_book (Cond.code yX9_book cX9_book 4 (some .int) :: TB) ({ frames := 10, cells := 2, slots := 17, locals := 212 } : Room) 2 17 D (tq cy) [.ref a0] L0 f0 (fun (r : Int) (L1 : List Nat) (f1 : Nat → va_E) => (∀ x ∈ L0, x ∈ L1) ∧ GI cy L1 f1 ∧ Al cy L0 f0 f1 ∧ (fI f1 a0 1 = 0 ∧ True)) := by
  refine Ci.enter (cc := cX9_book) (n := 4) rfl (plainFor_of_name (by decide)) (Nat.le_of_ble_eq_true rfl) ?_
  intro p e s m below meth c ls A hx hb hr hts hown hlocks hnm hml hK hA hAe hw hZ hl
  have hown : s.vm.findClass RX9 = some m.cls := hown
  have hl : lv_has ls 4 [(0, .ref a0)] := hl
  have hN : ZN s := (zo.2.2.2.2 _ _ _ hZ).2
  have hs : ∀ x ∈ L0, x ∈ L0 := fun _ h => h
  have hE : Al cy L0 f0 f0 := Al.refl cy L0 f0
  refine lv_aload_n hx hb dX9_book_0 rfl (lv_at hl 0 rfl) ?_
  refine q_geti (ci := 7) (C := RX9) (T := TX9) (N := 4) hx hb hts (fun w h => List.mem_cons_of_mem _ (mfX90 w h)) hown hK hw m_a0 o_a0 rfl 1 (by decide) (hts _ (List.mem_cons_of_mem _ (mr1 _ (List.mem_of_getElem? (i := 16) rfl)))) (fun _ h => h) rfl dX9_book_1 (fun x_1 lx_1 ux_1 ex_1 => ?_)
  have bx_1 : 0 ≤ x_1 ∧ x_1 ≤ 168 := by rw [ex_1]; exact hg.1 _ m_a0 7 1 o_a0
  refine lv_istore_n (lv' := [(1, .int (iI x_1)), (0, .ref a0)]) hx hb dX9_book_4 rfl hl (by decide) rfl (fun ls hl => ?_)
  refine lv_aload_n hx hb dX9_book_5 rfl (lv_at hl 1 rfl) ?_
  refine q_iconst hx hb dX9_book_6 ?_
  refine q_puti (ci := 7) (C := RX9) (T := TX9) (N := 4) hx hb hts (fun w h => List.mem_cons_of_mem _ (mfX90 w h)) hown hK hw m_a0 o_a0 rfl 1 (by decide) (hts _ (List.mem_cons_of_mem _ (mr1 _ (List.mem_of_getElem? (i := 16) rfl)))) (fun _ h => h) tyX9 tyX9_ok nmX9 rfl (ty := .int) (by decide +kernel) rfl rfl dX9_book_7 (fun H locs hw => ?_)
  have oo := o_a0
  obtain ⟨f_2, ef_2⟩ : ∃ g : Nat → va_E, g = pU f0 a0 1 (.int (iI 0)) := ⟨_, rfl⟩
  have hX : Ey cy f0 f_2 := by rw [ef_2]; exact Ey_pU oo rfl
  have hg : GI cy L0 f_2 := by rw [ef_2]; exact hg.putI oo rfl ⟨by decide, by decide⟩ (by show 0 ≤ 0 ∧ 0 ≤ 168; omega)
  rw [← ef_2] at hw
  have hk1 : fI f_2 a0 1 = 0 := by rw [ef_2]; exact fI_pU_self oo rfl ⟨by decide, by decide⟩
  have hE := hE.trans hs (hX.al _)
  have o_a0 := hX.1.1 _ _ o_a0
  have vf_2 : fI f_2 a0 1 = 0 := by rw [ef_2]; exact fI_pU_self oo rfl ⟨by decide, by decide⟩
  refine lv_iload_n hx hb dX9_book_10 rfl (lv_at hl 0 rfl) ?_
  refine q_sipush hx hb dX9_book_11 rfl ?_
  refine q_icmp_gt (tgt := 27) hx hb dX9_book_14 (by decide) ⟨lx_1, ux_1⟩ ⟨by decide, by decide⟩ (fun c14 => ?_) (fun c14 => ?_)
  · refine q_iconst hx hb dX9_book_27 ?_
    exact q_ret_i hx hb hr hlocks hK hAe hw ⟨by decide, by decide⟩ (Nat.le_of_ble_eq_true rfl) (Nat.le_of_ble_eq_true rfl) dX9_book_28 (by exact ⟨hs, hg, hE, hk1, by first | trivial | omega⟩)
  · refine lv_aload_n hx hb dX9_book_17 rfl (lv_at hl 1 rfl) ?_
    obtain ⟨r_3, er_3, m_r_3, o_r_3⟩ := (show ∃ r, fR f_2 a0 2 = some r ∧ r ∈ L0 ∧ Ob f_2 r 5 from hg.2.1 _ m_a0 7 2 o_a0)
    refine q_getr (ci := 7) (C := RX9) (T := TX9) (N := 4) hx hb hts (fun w h => List.mem_cons_of_mem _ (mfX90 w h)) hown hK hw m_a0 o_a0 rfl 2 (by decide) (hts _ (List.mem_cons_of_mem _ (mr1 _ (List.mem_of_getElem? (i := 20) rfl)))) (fun _ h => h) rfl er_3 dX9_book_18 ?_
    refine q_call_i hA hK hw (va_runV (As := []) (rest := []) ⟨hx, hb, hml, hown, hts⟩ (c_X7_isFull zo l D cy L0 f_2 r_3 m_r_3 o_r_3 hg _) (cwV 0 hts (gT (inV (mr5 _ (List.mem_of_getElem? (i := 19) rfl)) (mr5 _ (List.mem_of_getElem? (i := 20) rfl)) (mr5 _ (List.mem_of_getElem? (i := 21) rfl)) (mr1 _ (List.mem_of_getElem? (i := 19) rfl)) (mr5 _ (List.mem_of_getElem? (i := 22) rfl)))) rfl rfl rfl (by decide +kernel) ⟨Nat.le_of_ble_eq_true rfl, Nat.le_of_ble_eq_true rfl⟩) (Wd.preV zo hA hZ hw hK m_r_3 o_r_3 rfl) rfl rfl hl.1 rfl (lv_room (Nat.le_of_ble_eq_true rfl)) dX9_book_21 ⟨Nat.le_of_ble_eq_true rfl, Nat.le_of_ble_eq_true rfl⟩) (fun x_4 L1 f1 H locs lx_4 ux_4 ex_4 hw => ?_)
    obtain ⟨rfl, rfl, ex_4⟩ := ex_4
    refine q_if_eq (tgt := 29) hx hb dX9_book_24 (by decide) ⟨lx_4, ux_4⟩ (fun c24 => ?_) (fun c24 => ?_)
    · refine q_new (ci := 4) (C := RX5) (T := TX5) (N := 10) (fs := [.null, .int 0, .int 0, .int 0, .int 0, .int 0, .int 0, .int 0, .int 0, .int 0]) hx hb hts (fun w h => List.mem_cons_of_mem _ (mfX50 w h)) tyX5 tyX5_ok hown (hts _ (List.mem_cons_of_mem _ (mr5 _ (List.mem_of_getElem? (i := 16) rfl)))) (hts _ (List.mem_cons_of_mem _ (mr5 _ (List.mem_of_getElem? (i := 17) rfl)))) (hts _ (List.mem_cons_of_mem _ (mr5 _ (List.mem_of_getElem? (i := 18) rfl)))) hK hw hA rfl (by decide) (Nat.le_of_ble_eq_true rfl) (Nat.le_of_ble_eq_true rfl) dX9_book_29 (fun q_5 H n_q_5 hw => ?_)
      obtain ⟨f_6, ef_6⟩ : ∃ g : Nat → va_E, g = va_up f_2 q_5 (.inr (4, [.null, .int 0, .int 0, .int 0, .int 0, .int 0, .int 0, .int 0, .int 0, .int 0])) := ⟨_, rfl⟩
      rw [← ef_6] at hw
      have hX : Al cy L0 f_2 f_6 := by rw [ef_6]; exact Al.push n_q_5
      have hg : GI cy L0 f_6 := by rw [ef_6]; exact hg.push n_q_5
      have hM : ∀ x ∈ L0, x ∈ L0 ++ [q_5] := fun x h => List.mem_append_left _ h
      have hs0 := hs
      have hk1 : fI f_6 a0 1 = 0 := Eq.trans (fI_of (show f_6 a0 = f_2 a0 by rw [ef_6]; exact va_up_ne _ _ (fun (z : a0 = q_5) => n_q_5 (z ▸ m_a0)))) hk1
      have hE := hE.trans hs (hX)
      have o_a0 := hX.1 _ m_a0 _ o_a0
      have mg_a0 := m_a0
      have m_a0 := hM _ m_a0
      have hs : ∀ x ∈ L0, x ∈ L0 ++ [q_5] := fun x h => hM x (hs x h)
      have m_q_5 : q_5 ∈ L0 ++ [q_5] := List.mem_append_right _ (List.mem_singleton.mpr rfl)
      have o_q_5 : Ob f_6 q_5 4 := by rw [ef_6]; exact ⟨_, va_up_self _ _ _, rfl⟩
      refine lv_dup hx hb dX9_book_32 rfl ?_
      refine lv_aload_n hx hb dX9_book_33 rfl (lv_at hl 1 rfl) ?_
      obtain ⟨r_7, er_7, mg_r_7, o_r_7⟩ := (show ∃ r, fR f_6 a0 0 = some r ∧ r ∈ L0 ∧ ArI f_6 r cy.1 168 from hg.2.1 _ mg_a0 7 0 o_a0)
      have m_r_7 := hM _ mg_r_7
      refine q_getr (ci := 7) (C := RX9) (T := TX9) (N := 4) hx hb hts (fun w h => List.mem_cons_of_mem _ (mfX90 w h)) hown hK hw m_a0 o_a0 rfl 0 (by decide) (hts _ (List.mem_cons_of_mem _ (mr1 _ (List.mem_of_getElem? (i := 15) rfl)))) (fun _ h => h) rfl er_7 dX9_book_34 ?_
      refine lv_iload_n hx hb dX9_book_37 rfl (lv_at hl 0 rfl) ?_
      refine q_call_v hA hK hw (va_runI (As := [.ref r_7, .int (iI x_1)]) (rest := [.ref q_5]) ⟨hx, hb, hml, hown, hts⟩ (c_X5_init zo l D cy (L0 ++ [q_5]) f_6 q_5 r_7 x_1 lx_1 ux_1 m_q_5 o_q_5 m_r_7 o_r_7 (L0) hM hg mg_r_7 (by omega) (by omega) _) (cwI 2 hts (gT (inC (mr6 _ (List.mem_of_getElem? (i := 1) rfl)))) rfl rfl rfl (hts _ (List.mem_cons_of_mem _ (mr5 _ (List.mem_of_getElem? (i := 18) rfl)))) (hts _ (List.mem_cons_of_mem _ (mr5 _ (List.mem_of_getElem? (i := 23) rfl)))) (hts _ (List.mem_cons_of_mem _ (mr6 _ (List.mem_of_getElem? (i := 0) rfl)))) rfl (by decide +kernel) ⟨Nat.le_of_ble_eq_true rfl, Nat.le_of_ble_eq_true rfl⟩) (Wd.preS zo hA hZ hw hK) rfl rfl hl.1 rfl (lv_room (Nat.le_of_ble_eq_true rfl)) dX9_book_38 ⟨Nat.le_of_ble_eq_true rfl, Nat.le_of_ble_eq_true rfl⟩) (fun L1 f_9 H locs ex_8 hw => ?_)
      obtain ⟨rfl, hg, hX, ex_8⟩ := ex_8
      have hk1 : fI f_9 a0 1 = 0 := Eq.trans (fI_V (hX.2.1 a0 1 o_a0)) hk1
      have hE := hE.trans hs (hX.ey.al _)
      have o_a0 := hX.1.1 _ _ o_a0
      have o_q_5 := hX.1.1 _ _ o_q_5
      have o_r_7 := hX.1.2.1 _ _ _ o_r_7
      have ex_8 := ex_8.2
      have hg := hg.addOb o_q_5 (fcond_4 ex_8.1) (rcond_4 ⟨ex_8.2, List.mem_append_left _ mg_r_7, o_r_7⟩)
      refine lv_astore_n (lv' := [(2, .ref q_5), (1, .int (iI x_1)), (0, .ref a0)]) hx hb dX9_book_41 rfl hl (by decide) rfl (fun ls hl => ?_)
      refine lv_aload_n hx hb dX9_book_42 rfl (lv_at hl 0 rfl) ?_
      refine lv_aload_n hx hb dX9_book_43 rfl (lv_at hl 2 rfl) ?_
      obtain ⟨r_10, er_10, m_r_10, o_r_10⟩ := (show ∃ r, fR f_9 a0 2 = some r ∧ r ∈ (L0 ++ [q_5]) ∧ Ob f_9 r 5 from hg.2.1 _ m_a0 7 2 o_a0)
      refine q_getr (ci := 7) (C := RX9) (T := TX9) (N := 4) hx hb hts (fun w h => List.mem_cons_of_mem _ (mfX90 w h)) hown hK hw m_a0 o_a0 rfl 2 (by decide) (hts _ (List.mem_cons_of_mem _ (mr1 _ (List.mem_of_getElem? (i := 20) rfl)))) (fun _ h => h) rfl er_10 dX9_book_44 ?_
      refine q_call_r hA hK hw (va_runV (As := []) (rest := [.ref q_5]) ⟨hx, hb, hml, hown, hts⟩ (c_X7_spare zo l D cy (L0 ++ [q_5]) f_9 r_10 m_r_10 o_r_10 hg _) (cwV 0 hts (gT (inV (mr6 _ (List.mem_of_getElem? (i := 17) rfl)) (mr6 _ (List.mem_of_getElem? (i := 18) rfl)) (mr6 _ (List.mem_of_getElem? (i := 19) rfl)) (mr1 _ (List.mem_of_getElem? (i := 19) rfl)) (mr6 _ (List.mem_of_getElem? (i := 20) rfl)))) rfl rfl rfl (by decide +kernel) ⟨Nat.le_of_ble_eq_true rfl, Nat.le_of_ble_eq_true rfl⟩) (Wd.preV zo hA hZ hw hK m_r_10 o_r_10 rfl) rfl rfl hl.1 rfl (lv_room (Nat.le_of_ble_eq_true rfl)) dX9_book_47 ⟨Nat.le_of_ble_eq_true rfl, Nat.le_of_ble_eq_true rfl⟩) (fun x_11 L1 f1 H locs ex_11 hw => ?_)
      obtain ⟨rfl, rfl, ex_11⟩ := ex_11
      obtain ⟨m_x_11, o_x_11⟩ := ex_11
      refine q_call_i hA hK hw (va_runV (As := [.ref x_11]) (rest := []) ⟨hx, hb, hml, hown, hts⟩ (c_X5_read_k zo l D cy (L0 ++ [q_5]) f_9 q_5 x_11 m_q_5 o_q_5 m_x_11 o_x_11 hg _) (cwV 1 hts (gT (inV (mr6 _ (List.mem_of_getElem? (i := 22) rfl)) (mr6 _ (List.mem_of_getElem? (i := 23) rfl)) (mr7 _ (List.mem_of_getElem? (i := 0) rfl)) (mr5 _ (List.mem_of_getElem? (i := 18) rfl)) (mr7 _ (List.mem_of_getElem? (i := 1) rfl)))) rfl rfl rfl (by decide +kernel) ⟨Nat.le_of_ble_eq_true rfl, Nat.le_of_ble_eq_true rfl⟩) (Wd.preV zo hA hZ hw hK m_q_5 o_q_5 rfl) rfl rfl hl.1 rfl (lv_room (Nat.le_of_ble_eq_true rfl)) dX9_book_50 ⟨Nat.le_of_ble_eq_true rfl, Nat.le_of_ble_eq_true rfl⟩) (fun x_12 L_14 f_13 H locs lx_12 ux_12 ex_12 hw => ?_)
      obtain ⟨hs1, hg, hX, ex_12⟩ := ex_12
      obtain ⟨ek, ex_12⟩ := ex_12
      have hk1 : fI f_13 a0 1 = 0 := Eq.trans (ek a0 m_a0 o_a0) hk1
      have hE := hE.trans hs (hX)
      have o_q_5 := hX.1 _ m_q_5 _ o_q_5
      have o_a0 := hX.1 _ m_a0 _ o_a0
      have m_q_5 := hs1 _ m_q_5
      have m_a0 := hs1 _ m_a0
      have hs : ∀ x ∈ L0, x ∈ L_14 := fun x h => hs1 x (hs x h)
      refine lv_istore_n (lv' := [(3, .int (iI x_12)), (2, .ref q_5), (1, .int (iI x_1)), (0, .ref a0)]) hx hb dX9_book_53 rfl hl (by decide) rfl (fun ls hl => ?_)
      refine lv_iload_n hx hb dX9_book_54 rfl (lv_at hl 0 rfl) ?_
      refine q_if_eq (tgt := 63) hx hb dX9_book_55 (by decide) ⟨lx_12, ux_12⟩ (fun c55 => ?_) (fun c55 => ?_)
      · refine lv_aload_n hx hb dX9_book_63 rfl (lv_at hl 3 rfl) ?_
        obtain ⟨r_15, er_15, m_r_15, o_r_15⟩ := (show ∃ r, fR f_13 a0 2 = some r ∧ r ∈ L_14 ∧ Ob f_13 r 5 from hg.2.1 _ m_a0 7 2 o_a0)
        refine q_getr (ci := 7) (C := RX9) (T := TX9) (N := 4) hx hb hts (fun w h => List.mem_cons_of_mem _ (mfX90 w h)) hown hK hw m_a0 o_a0 rfl 2 (by decide) (hts _ (List.mem_cons_of_mem _ (mr1 _ (List.mem_of_getElem? (i := 20) rfl)))) (fun _ h => h) rfl er_15 dX9_book_64 ?_
        refine q_call_i hA hK hw (va_runV (As := []) (rest := []) ⟨hx, hb, hml, hown, hts⟩ (c_X7_keepSpare zo l D cy L_14 f_13 r_15 m_r_15 o_r_15 hg _) (cwV 0 hts (gT (inV (mr18 _ (List.mem_of_getElem? (i := 16) rfl)) (mr18 _ (List.mem_of_getElem? (i := 17) rfl)) (mr18 _ (List.mem_of_getElem? (i := 18) rfl)) (mr1 _ (List.mem_of_getElem? (i := 19) rfl)) (mr18 _ (List.mem_of_getElem? (i := 19) rfl)))) rfl rfl rfl (by decide +kernel) ⟨Nat.le_of_ble_eq_true rfl, Nat.le_of_ble_eq_true rfl⟩) (Wd.preV zo hA hZ hw hK m_r_15 o_r_15 rfl) rfl rfl hl.1 rfl (lv_room (Nat.le_of_ble_eq_true rfl)) dX9_book_67 ⟨Nat.le_of_ble_eq_true rfl, Nat.le_of_ble_eq_true rfl⟩) (fun x_16 L1 f_17 H locs lx_16 ux_16 ex_16 hw => ?_)
        obtain ⟨rfl, hg, hX, ex_16⟩ := ex_16
        have hk1 : fI f_17 a0 1 = 0 := Eq.trans (fI_V (hX.2.1 a0 1 o_a0)) hk1
        have hE := hE.trans hs (hX.ey.al _)
        have o_q_5 := hX.1.1 _ _ o_q_5
        have o_a0 := hX.1.1 _ _ o_a0
        exact q_ret_i hx hb hr hlocks hK hAe hw ⟨lx_16, ux_16⟩ (Nat.le_of_ble_eq_true rfl) (Nat.le_of_ble_eq_true rfl) dX9_book_70 (by exact ⟨hs, hg, hE, hk1, by first | trivial | omega⟩)
      · refine q_bipush hx hb dX9_book_58 rfl ?_
        refine lv_iload_n hx hb dX9_book_60 rfl (lv_at hl 0 rfl) ?_
        first | refine q_isub hx hb dX9_book_61 ⟨by omega, by omega⟩ (fun x_18 lx_18 ux_18 ex_18 => ?_) | refine q_isubw hx hb dX9_book_61 (fun x_18 lx_18 ux_18 _ => ?_)
        exact q_ret_i hx hb hr hlocks hK hAe hw ⟨lx_18, ux_18⟩ (Nat.le_of_ble_eq_true rfl) (Nat.le_of_ble_eq_true rfl) dX9_book_62 (by exact ⟨hs, hg, hE, hk1, by first | trivial | omega⟩)
    · refine q_iconst hx hb dX9_book_27 ?_
      exact q_ret_i hx hb hr hlocks hK hAe hw ⟨by decide, by decide⟩ (Nat.le_of_ble_eq_true rfl) (Nat.le_of_ble_eq_true rfl) dX9_book_28 (by exact ⟨hs, hg, hE, hk1, by first | trivial | omega⟩)
set_option maxHeartbeats 4000000 in
set_option maxRecDepth 100000 in
theorem c_X9_image_k {Z : Zt} (zo : Zok Z) (l : Launch) (D : va_G) (cy : Cy) (L0 : List Nat) (f0 : Nat → va_E) (a0 : Nat) (x1 : Int) (lx1 : -2147483648 ≤ x1) (ux1 : x1 ≤ 2147483647) (m_a0 : a0 ∈ L0) (o_a0 : Ob f0 a0 7) (hg : GI cy L0 f0) : Ci Z l yX9_image (Cond.code yX9_image cX9_image 2 (some .boolean) :: TB) ({ frames := 4, cells := 39, slots := 581, locals := 103 } : Room) 39 581 D (tq cy) [.ref a0, .int (iI x1)] L0 f0 (fun (r : Int) (L1 : List Nat) (f1 : Nat → va_E) => (∀ x ∈ L0, x ∈ L1) ∧ GI cy L1 f1 ∧ (∀ a ∈ L0, ∀ ci : Nat, Ob f0 a ci → Ob f1 a ci) ∧ (fI f1 a0 1 = fI f0 a0 1 ∧ (r = 1 ∧ 0 ≤ x1 ∧ x1 ≤ 1 ∨ r = 0 ∧ (x1 < 0 ∨ 1 < x1)))) := by
  refine Ci.enter (cc := cX9_image) (n := 2) rfl (plainFor_of_name (by decide)) (Nat.le_of_ble_eq_true rfl) ?_
  intro p e s m below meth c ls A hx hb hr hts hown hlocks hnm hml hK hA hAe hw hZ hl
  have hown : s.vm.findClass RX9 = some m.cls := hown
  have hl : lv_has ls 2 [(0, .ref a0), (1, .int (iI x1))] := hl
  have hN : ZN s := (zo.2.2.2.2 _ _ _ hZ).2
  have hs : ∀ x ∈ L0, x ∈ L0 := fun _ h => h
  have hE : (∀ a ∈ L0, ∀ ci : Nat, Ob f0 a ci → Ob f0 a ci) := fun _ _ _ o => o
  have hk1 : fI f0 a0 1 = fI f0 a0 1 := rfl
  refine lv_iload_n hx hb dX9_image_0 rfl (lv_at hl 1 rfl) ?_
  refine q_if_lt (tgt := 13) hx hb dX9_image_1 (by decide) ⟨lx1, ux1⟩ (fun c1 => ?_) (fun c1 => ?_)
  · refine q_iconst hx hb dX9_image_13 ?_
    exact q_ret_z hx hb hr hlocks hK hAe hw (by omega) (Nat.le_of_ble_eq_true rfl) (Nat.le_of_ble_eq_true rfl) dX9_image_14 (by exact ⟨hs, hg, hE, hk1, by omega⟩)
  · refine lv_iload_n hx hb dX9_image_4 rfl (lv_at hl 1 rfl) ?_
    refine lv_aload_n hx hb dX9_image_5 rfl (lv_at hl 0 rfl) ?_
    obtain ⟨r_1, er_1, m_r_1, o_r_1⟩ := (show ∃ r, fR f0 a0 3 = some r ∧ r ∈ L0 ∧ ArR f0 r cy.2.2.2.2 2 from hg.2.1 _ m_a0 7 3 o_a0)
    refine q_getr (ci := 7) (C := RX9) (T := TX9) (N := 4) hx hb hts (fun w h => List.mem_cons_of_mem _ (mfX90 w h)) hown hK hw m_a0 o_a0 rfl 3 (by decide) (hts _ (List.mem_cons_of_mem _ (mr1 _ (List.mem_of_getElem? (i := 21) rfl)))) (fun _ h => h) rfl er_1 dX9_image_6 ?_
    refine q_alenR hx hb hK hw m_r_1 4 o_r_1 rfl dX9_image_9 ?_
    refine q_icmp_lt (tgt := 15) hx hb dX9_image_10 (by decide) ⟨lx1, ux1⟩ ⟨by decide, by decide⟩ (fun c10 => ?_) (fun c10 => ?_)
    · refine lv_aload_n hx hb dX9_image_15 rfl (lv_at hl 0 rfl) ?_
      refine q_getr (ci := 7) (C := RX9) (T := TX9) (N := 4) hx hb hts (fun w h => List.mem_cons_of_mem _ (mfX90 w h)) hown hK hw m_a0 o_a0 rfl 3 (by decide) (hts _ (List.mem_cons_of_mem _ (mr1 _ (List.mem_of_getElem? (i := 21) rfl)))) (fun _ h => h) rfl er_1 dX9_image_16 ?_
      refine lv_iload_n hx hb dX9_image_19 rfl (lv_at hl 1 rfl) ?_
      rcases hg.2.2.2 _ m_r_1 x1 o_r_1 (by omega) (by omega) with er_3 | ⟨r_3, er_3, m_r_3, o_r_3⟩
      · refine q_aald hx hb hK hw m_r_1 4 o_r_1 rfl ⟨lx1, ux1⟩ (by omega) (by omega) er_3 dX9_image_20 ?_
        show W _ _ _ _ _ _ _ _ _ _ _ _ _ _ _ (F0 m 21 ls (.null :: []))
        refine lv_ifnonnullN hx hb dX9_image_21 ?_
        refine lv_aload_n hx hb dX9_image_24 rfl (lv_at hl 0 rfl) ?_
        refine q_getr (ci := 7) (C := RX9) (T := TX9) (N := 4) hx hb hts (fun w h => List.mem_cons_of_mem _ (mfX90 w h)) hown hK hw m_a0 o_a0 rfl 3 (by decide) (hts _ (List.mem_cons_of_mem _ (mr1 _ (List.mem_of_getElem? (i := 21) rfl)))) (fun _ h => h) rfl er_1 dX9_image_25 ?_
        refine lv_iload_n hx hb dX9_image_28 rfl (lv_at hl 1 rfl) ?_
        refine q_new (ci := 5) (C := RX7) (T := TX7) (N := 2) (fs := [.null, .int 0]) hx hb hts (fun w h => List.mem_cons_of_mem _ (mfX70 w h)) tyX7 tyX7_ok hown (hts _ (List.mem_cons_of_mem _ (mr1 _ (List.mem_of_getElem? (i := 17) rfl)))) (hts _ (List.mem_cons_of_mem _ (mr1 _ (List.mem_of_getElem? (i := 18) rfl)))) (hts _ (List.mem_cons_of_mem _ (mr1 _ (List.mem_of_getElem? (i := 19) rfl)))) hK hw hA rfl (by decide) (Nat.le_of_ble_eq_true rfl) (Nat.le_of_ble_eq_true rfl) dX9_image_29 (fun q_4 H n_q_4 hw => ?_)
        obtain ⟨f_5, ef_5⟩ : ∃ g : Nat → va_E, g = va_up f0 q_4 (.inr (5, [.null, .int 0])) := ⟨_, rfl⟩
        rw [← ef_5] at hw
        have hX : Al cy L0 f0 f_5 := by rw [ef_5]; exact Al.push n_q_4
        have hg : GI cy L0 f_5 := by rw [ef_5]; exact hg.push n_q_4
        have hM : ∀ x ∈ L0, x ∈ L0 ++ [q_4] := fun x h => List.mem_append_left _ h
        have hs0 := hs
        have er_1 : fR f_5 a0 3 = some r_1 := (show fR f_5 a0 3 = fR f0 a0 3 by rw [ef_5]; exact fR_of (va_up_ne _ _ (fun z => n_q_4 (z ▸ m_a0)))).trans er_1
        have hk1 : fI f_5 a0 1 = fI f0 a0 1 := Eq.trans (fI_of (show f_5 a0 = f0 a0 by rw [ef_5]; exact va_up_ne _ _ (fun (z : a0 = q_4) => n_q_4 (z ▸ m_a0)))) hk1
        have hE := fun a m ci o => hX.1 a (hs a m) ci (hE a m ci o)
        have o_a0 := hX.1 _ m_a0 _ o_a0
        have o_r_1 := hX.2.2.1 _ m_r_1 _ _ o_r_1
        have mg_a0 := m_a0
        have m_a0 := hM _ m_a0
        have mg_r_1 := m_r_1
        have m_r_1 := hM _ m_r_1
        have hs : ∀ x ∈ L0, x ∈ L0 ++ [q_4] := fun x h => hM x (hs x h)
        have m_q_4 : q_4 ∈ L0 ++ [q_4] := List.mem_append_right _ (List.mem_singleton.mpr rfl)
        have o_q_4 : Ob f_5 q_4 5 := by rw [ef_5]; exact ⟨_, va_up_self _ _ _, rfl⟩
        refine lv_dup hx hb dX9_image_32 rfl ?_
        refine q_call_v hA hK hw (va_runI (As := []) (rest := [.ref q_4, .int (iI x1), .ref r_1]) ⟨hx, hb, hml, hown, hts⟩ (c_X7_init zo l D cy (L0 ++ [q_4]) f_5 q_4 m_q_4 o_q_4 (L0) hM hg n_q_4 _) (cwI 0 hts (gT (inC (mr2 _ (List.mem_of_getElem? (i := 0) rfl)))) rfl rfl rfl (hts _ (List.mem_cons_of_mem _ (mr1 _ (List.mem_of_getElem? (i := 19) rfl)))) (hts _ (List.mem_cons_of_mem _ (mr1 _ (List.mem_of_getElem? (i := 22) rfl)))) (hts _ (List.mem_cons_of_mem _ (mr1 _ (List.mem_of_getElem? (i := 23) rfl)))) rfl (by decide +kernel) ⟨Nat.le_of_ble_eq_true rfl, Nat.le_of_ble_eq_true rfl⟩) (Wd.preS zo hA hZ hw hK) rfl rfl hl.1 rfl (lv_room (Nat.le_of_ble_eq_true rfl)) dX9_image_33 ⟨Nat.le_of_ble_eq_true rfl, Nat.le_of_ble_eq_true rfl⟩) (fun L_8 f_7 H locs ex_6 hw => ?_)
        obtain ⟨M_9, p1, p2, p3, p4, p5, p6, hg, hq, o_q_4⟩ := ex_6
        have hg : GI cy L_8 f_7 := hg.same p2 (fun x h => (p6 x h).elim (fun h => (List.mem_append.mp h).elim (fun h => p1 x h) (fun h => by rw [List.mem_singleton.mp h]; exact p4)) id)
        have hk1 : fI f_7 a0 1 = fI f0 a0 1 := Eq.trans (fI_of (hq a0 m_a0 (fun (z : a0 = q_4) => n_q_4 (z ▸ mg_a0)))) hk1
        have hE := fun a m ci o => Ob_of (hq a (hs a m) (fun z => n_q_4 (z ▸ hs0 a m))) (hE a m ci o)
        have o_a0 := Ob_of (hq _ m_a0 (fun h => n_q_4 (h ▸ mg_a0))) o_a0
        have o_r_1 := ArR_of (hq _ m_r_1 (fun h => n_q_4 (h ▸ mg_r_1))) o_r_1
        have er_1 : fR f_7 a0 3 = some r_1 := (fR_of (hq _ m_a0 (fun h => n_q_4 (h ▸ mg_a0)))).trans er_1
        have m_a0 := p5 _ m_a0
        have m_q_4 := p5 _ m_q_4
        have m_r_1 := p5 _ m_r_1
        have hs : ∀ x ∈ L0, x ∈ L_8 := fun x h => p5 x (hs x h)
        refine q_aast hx hb hK hw m_r_1 4 o_r_1 rfl m_q_4 o_q_4 rfl ⟨lx1, ux1⟩ (by omega) (by omega) dX9_image_36 (fun H locs hw => ?_)
        have oo := o_r_1
        have ov := o_q_4
        obtain ⟨f_10, ef_10⟩ : ∃ g : Nat → va_E, g = rU f_7 r_1 x1 (some q_4) := ⟨_, rfl⟩
        have hX : Sh f_7 f_10 := by rw [ef_10]; exact Sh_rU oo
        have hg : GI cy L_8 f_10 := by rw [ef_10]; exact hg.putS oo (by omega) m_q_4 ov
        rw [← ef_10] at hw
        have hk1 : fI f_10 a0 1 = fI f0 a0 1 := Eq.trans (show fI f_10 a0 1 = fI f_7 a0 1 by rw [ef_10]; exact fI_rU oo) hk1
        have hE := fun a m ci o => hX.1 a ci (hE a m ci o)
        have o_a0 := hX.1 _ _ o_a0
        have o_r_1 := hX.2.2 _ _ _ oo
        have o_q_4 := hX.1 _ _ ov
        have eq_4 : aR f_10 r_1 x1 = some q_4 := by rw [ef_10]; exact aR_rU_self oo
        have er_1 : fR f_10 a0 3 = some r_1 := by rw [ef_10]; exact (fR_rU oo).trans er_1
        refine lv_aload_n hx hb dX9_image_37 rfl (lv_at hl 0 rfl) ?_
        refine q_getr (ci := 7) (C := RX9) (T := TX9) (N := 4) hx hb hts (fun w h => List.mem_cons_of_mem _ (mfX90 w h)) hown hK hw m_a0 o_a0 rfl 3 (by decide) (hts _ (List.mem_cons_of_mem _ (mr1 _ (List.mem_of_getElem? (i := 21) rfl)))) (fun _ h => h) rfl er_1 dX9_image_38 ?_
        refine lv_iload_n hx hb dX9_image_41 rfl (lv_at hl 1 rfl) ?_
        refine q_aald hx hb hK hw m_r_1 4 o_r_1 rfl ⟨lx1, ux1⟩ (by omega) (by omega) eq_4 dX9_image_42 ?_
        show W _ _ _ _ _ _ _ _ _ _ _ _ _ _ _ (F0 m 43 ls (.ref q_4 :: []))
        refine lv_aload_n hx hb dX9_image_43 rfl (lv_at hl 0 rfl) ?_
        obtain ⟨r_12, er_12, m_r_12, o_r_12⟩ := (show ∃ r, fR f_10 a0 2 = some r ∧ r ∈ L_8 ∧ Ob f_10 r 5 from hg.2.1 _ m_a0 7 2 o_a0)
        refine q_getr (ci := 7) (C := RX9) (T := TX9) (N := 4) hx hb hts (fun w h => List.mem_cons_of_mem _ (mfX90 w h)) hown hK hw m_a0 o_a0 rfl 2 (by decide) (hts _ (List.mem_cons_of_mem _ (mr1 _ (List.mem_of_getElem? (i := 20) rfl)))) (fun _ h => h) rfl er_12 dX9_image_44 ?_
        refine q_call_v hA hK hw (va_runV (As := [.ref r_12]) (rest := []) ⟨hx, hb, hml, hown, hts⟩ (c_X7_copyFrom zo l D cy L_8 f_10 q_4 r_12 m_q_4 o_q_4 m_r_12 o_r_12 hg _) (cwV 1 hts (gT (inV (mr44 _ (List.mem_of_getElem? (i := 18) rfl)) (mr44 _ (List.mem_of_getElem? (i := 19) rfl)) (mr44 _ (List.mem_of_getElem? (i := 20) rfl)) (mr1 _ (List.mem_of_getElem? (i := 19) rfl)) (mr44 _ (List.mem_of_getElem? (i := 21) rfl)))) rfl rfl rfl (by decide +kernel) ⟨Nat.le_of_ble_eq_true rfl, Nat.le_of_ble_eq_true rfl⟩) (Wd.preV zo hA hZ hw hK m_q_4 o_q_4 rfl) rfl rfl hl.1 rfl (lv_room (Nat.le_of_ble_eq_true rfl)) dX9_image_47 ⟨Nat.le_of_ble_eq_true rfl, Nat.le_of_ble_eq_true rfl⟩) (fun L1 f_14 H locs ex_13 hw => ?_)
        obtain ⟨rfl, hg, hX, ex_13⟩ := ex_13
        have hk1 : fI f_14 a0 1 = fI f0 a0 1 := Eq.trans (fI_V (hX.2.1 a0 1 o_a0)) hk1
        have hE := fun a m ci o => hX.1.1 a ci (hE a m ci o)
        have o_a0 := hX.1.1 _ _ o_a0
        refine q_iconst hx hb dX9_image_50 ?_
        exact q_ret_z hx hb hr hlocks hK hAe hw (by omega) (Nat.le_of_ble_eq_true rfl) (Nat.le_of_ble_eq_true rfl) dX9_image_51 (by exact ⟨hs, hg, hE, hk1, by omega⟩)
      · refine q_aald hx hb hK hw m_r_1 4 o_r_1 rfl ⟨lx1, ux1⟩ (by omega) (by omega) er_3 dX9_image_20 ?_
        show W _ _ _ _ _ _ _ _ _ _ _ _ _ _ _ (F0 m 21 ls (.ref r_3 :: []))
        refine lv_ifnonnull (tgt := 37) hx hb dX9_image_21 (by decide) ?_
        refine lv_aload_n hx hb dX9_image_37 rfl (lv_at hl 0 rfl) ?_
        refine q_getr (ci := 7) (C := RX9) (T := TX9) (N := 4) hx hb hts (fun w h => List.mem_cons_of_mem _ (mfX90 w h)) hown hK hw m_a0 o_a0 rfl 3 (by decide) (hts _ (List.mem_cons_of_mem _ (mr1 _ (List.mem_of_getElem? (i := 21) rfl)))) (fun _ h => h) rfl er_1 dX9_image_38 ?_
        refine lv_iload_n hx hb dX9_image_41 rfl (lv_at hl 1 rfl) ?_
        refine q_aald hx hb hK hw m_r_1 4 o_r_1 rfl ⟨lx1, ux1⟩ (by omega) (by omega) er_3 dX9_image_42 ?_
        show W _ _ _ _ _ _ _ _ _ _ _ _ _ _ _ (F0 m 43 ls (.ref r_3 :: []))
        refine lv_aload_n hx hb dX9_image_43 rfl (lv_at hl 0 rfl) ?_
        obtain ⟨r_16, er_16, m_r_16, o_r_16⟩ := (show ∃ r, fR f0 a0 2 = some r ∧ r ∈ L0 ∧ Ob f0 r 5 from hg.2.1 _ m_a0 7 2 o_a0)
        refine q_getr (ci := 7) (C := RX9) (T := TX9) (N := 4) hx hb hts (fun w h => List.mem_cons_of_mem _ (mfX90 w h)) hown hK hw m_a0 o_a0 rfl 2 (by decide) (hts _ (List.mem_cons_of_mem _ (mr1 _ (List.mem_of_getElem? (i := 20) rfl)))) (fun _ h => h) rfl er_16 dX9_image_44 ?_
        refine q_call_v hA hK hw (va_runV (As := [.ref r_16]) (rest := []) ⟨hx, hb, hml, hown, hts⟩ (c_X7_copyFrom zo l D cy L0 f0 r_3 r_16 m_r_3 o_r_3 m_r_16 o_r_16 hg _) (cwV 1 hts (gT (inV (mr44 _ (List.mem_of_getElem? (i := 18) rfl)) (mr44 _ (List.mem_of_getElem? (i := 19) rfl)) (mr44 _ (List.mem_of_getElem? (i := 20) rfl)) (mr1 _ (List.mem_of_getElem? (i := 19) rfl)) (mr44 _ (List.mem_of_getElem? (i := 21) rfl)))) rfl rfl rfl (by decide +kernel) ⟨Nat.le_of_ble_eq_true rfl, Nat.le_of_ble_eq_true rfl⟩) (Wd.preV zo hA hZ hw hK m_r_3 o_r_3 rfl) rfl rfl hl.1 rfl (lv_room (Nat.le_of_ble_eq_true rfl)) dX9_image_47 ⟨Nat.le_of_ble_eq_true rfl, Nat.le_of_ble_eq_true rfl⟩) (fun L1 f_18 H locs ex_17 hw => ?_)
        obtain ⟨rfl, hg, hX, ex_17⟩ := ex_17
        have hk1 : fI f_18 a0 1 = fI f0 a0 1 := Eq.trans (fI_V (hX.2.1 a0 1 o_a0)) hk1
        have hE := fun a m ci o => hX.1.1 a ci (hE a m ci o)
        have o_a0 := hX.1.1 _ _ o_a0
        refine q_iconst hx hb dX9_image_50 ?_
        exact q_ret_z hx hb hr hlocks hK hAe hw (by omega) (Nat.le_of_ble_eq_true rfl) (Nat.le_of_ble_eq_true rfl) dX9_image_51 (by exact ⟨hs, hg, hE, hk1, by omega⟩)
    · refine q_iconst hx hb dX9_image_13 ?_
      exact q_ret_z hx hb hr hlocks hK hAe hw (by omega) (Nat.le_of_ble_eq_true rfl) (Nat.le_of_ble_eq_true rfl) dX9_image_14 (by exact ⟨hs, hg, hE, hk1, by omega⟩)
set_option maxHeartbeats 4000000 in
set_option maxRecDepth 100000 in
theorem c_X9_init_k {Z : Zt} (zo : Zok Z) (l : Launch) (D : va_G) (cy : Cy) (L0 : List Nat) (f0 : Nat → va_E) (a0 : Nat) (m_a0 : a0 ∈ L0) (o_a0 : Ob f0 a0 7) (M : List Nat) (hM : ∀ x ∈ M, x ∈ L0) (hg : GI cy M f0) (hn0 : a0 ∉ M) : Cv Z l yX9_init (Cond.code yX9_init cX9_init 1 none :: TB) ({ frames := 4, cells := 41, slots := 751, locals := 86 } : Room) 41 751 D (tq cy) [.ref a0] L0 f0 (fun (L1 : List Nat) (f1 : Nat → va_E) => PA cy M L0 f0 a0 7 L1 f1 ∧ fI f1 a0 1 = 0) := by
  refine Cv.enter (cc := cX9_init) (n := 1) rfl (plainFor_of_name (by decide)) (Nat.le_of_ble_eq_true rfl) ?_
  intro p e s m below meth c ls A hx hb hr hts hown hlocks hnm hml hK hA hAe hw hZ hl
  have hown : s.vm.findClass RX9 = some m.cls := hown
  have hl : lv_has ls 1 [(0, .ref a0)] := hl
  have hN : ZN s := (zo.2.2.2.2 _ _ _ hZ).2
  have ha0 := m_a0
  have hML := hM
  have hM0 : ∀ x ∈ M, x ∈ M := fun _ h => h
  have hMc : ∀ x ∈ M, x ∈ M ∨ x ∉ L0 := fun _ h => Or.inl h
  have hs : ∀ x ∈ L0, x ∈ L0 := fun _ h => h
  have hc : ∀ x ∈ L0, x ∈ L0 ∨ x ∈ M ∨ x ∈ ([] : List Nat) := fun _ h => Or.inl h
  have hO : ∀ x ∈ L0, x ≠ a0 → f0 x = f0 x := fun _ _ _ => rfl
  refine lv_aload_n hx hb dX9_init_0 rfl (lv_at hl 0 rfl) ?_
  refine W.objInit hx hb hown (hts _ (List.mem_cons_of_mem _ (mr1 _ (List.mem_of_getElem? (i := 11) rfl)))) (hts _ (List.mem_cons_of_mem _ (mr1 _ (List.mem_of_getElem? (i := 12) rfl)))) (hts _ (List.mem_cons_of_mem _ (mr1 _ (List.mem_of_getElem? (i := 13) rfl)))) rfl (by rw [hml]; exact hl.1) rfl dX9_init_1 (Nat.le_of_ble_eq_true rfl) (Nat.le_of_ble_eq_true rfl) ?_
  refine W.eq (g2 := F0 m 4 ls []) rfl ?_
  refine lv_aload_n hx hb dX9_init_4 rfl (lv_at hl 0 rfl) ?_
  refine q_sipush hx hb dX9_init_5 rfl ?_
  refine q_newI (n := 168) (cA := cy.1) hx hb (hts _ (List.mem_cons_of_mem _ (mr1 _ (List.mem_of_getElem? (i := 14) rfl)))) rfl rfl 0 rfl hK hw hA (by decide) (by decide) (by show 0 + 1 ≤ 41; omega) (by show 0 + 168 ≤ 751; omega) dX9_init_8 (fun q_1 H n_q_1 hw => ?_)
  obtain ⟨f_2, ef_2⟩ : ∃ g : Nat → va_E, g = va_up f0 q_1 (.inl (cy.1, 168, .inl (fun _ => 0))) := ⟨_, rfl⟩
  rw [← ef_2] at hw
  have hq : ∀ x ∈ L0, f_2 x = f0 x := fun x h => by rw [ef_2]; exact va_up_ne _ _ (fun z => n_q_1 (z ▸ h))
  have o_a0 := Ob_of (hq _ m_a0) o_a0
  have hO : ∀ x ∈ L0, x ≠ a0 → f_2 x = f0 x := fun x m h => (hq x (hs x m)).trans (hO x m h)
  have hg := hg.off (fun x h => hq x (hML x h))
  have ne_a0 : a0 ≠ q_1 := fun z => n_q_1 (z ▸ m_a0)
  have m_a0 : a0 ∈ L0 ++ [q_1] := List.mem_append_left _ m_a0
  have m_q_1 : q_1 ∈ L0 ++ [q_1] := List.mem_append_right _ (List.mem_singleton.mpr rfl)
  have nq_q_1 : q_1 ∉ L0 := fun z => n_q_1 (hs _ z)
  have nm_q_1 : q_1 ∉ M := fun z => n_q_1 (hML _ z)
  have hs : ∀ x ∈ L0, x ∈ L0 ++ [q_1] := fun x h => List.mem_append_left _ (hs x h)
  have o_q_1 : ArI f_2 q_1 cy.1 168 := by rw [ef_2]; exact ⟨_, va_up_self _ _ _⟩
  have hg := hg.addI o_q_1
  have mg_q_1 : q_1 ∈ M ++ [q_1] := List.mem_append_right _ (List.mem_singleton.mpr rfl)
  have hML : ∀ x ∈ M ++ [q_1], x ∈ L0 ++ [q_1] := fun x h => (List.mem_append.mp h).elim (fun h => List.mem_append_left _ (hML x h)) (fun h => by rw [List.mem_singleton.mp h]; exact m_q_1)
  have hM0 : ∀ x ∈ M, x ∈ M ++ [q_1] := fun x h => List.mem_append_left _ (hM0 x h)
  have hMc : ∀ x ∈ M ++ [q_1], x ∈ M ∨ x ∉ L0 := fun x h => (List.mem_append.mp h).elim (fun h => hMc x h) (fun h => by rw [List.mem_singleton.mp h]; exact Or.inr nq_q_1)
  have hc : ∀ x ∈ L0 ++ [q_1], x ∈ L0 ∨ x ∈ (M ++ [q_1]) ∨ x ∈ ([] : List Nat) := fun x h => (List.mem_append.mp h).elim (fun h => (hc x h).elim Or.inl (fun h => h.elim (fun h => Or.inr (Or.inl (List.mem_append_left _ h))) (fun h => Or.inr (Or.inr h)))) (fun h => Or.inr (Or.inl (List.mem_append_right _ h)))
  refine q_putFr (ci := 7) (C := RX9) (T := TX9) (N := 4) hx hb hts (fun w h => List.mem_cons_of_mem _ (mfX90 w h)) hown hK hw m_a0 o_a0 rfl 0 (by decide) (hts _ (List.mem_cons_of_mem _ (mr1 _ (List.mem_of_getElem? (i := 15) rfl)))) (fun _ h => h) tyX9 tyX9_ok nmX9 rfl hnm rfl (ty := tyX9 0) (by decide +kernel) rfl rfl rfl dX9_init_10 (fun H locs hw => ?_)
  obtain ⟨f_3, ef_3⟩ : ∃ g : Nat → va_E, g = pU f_2 a0 0 (.ref q_1) := ⟨_, rfl⟩
  rw [← ef_3] at hw
  have oo := o_a0
  have hq : ∀ x : Nat, x ≠ a0 → f_3 x = f_2 x := fun x h => by rw [ef_3]; exact pU_ne h
  have hX : Sh f_2 f_3 := by rw [ef_3]; exact Sh_pU oo rfl rfl
  have o_a0 := hX.1 _ _ o_a0
  have o_q_1 := hX.2.1 _ _ _ o_q_1
  have hg := hg.off (fun x h => hq x (fun z => (hMc x h).elim (fun h => hn0 (z ▸ h)) (fun h => h (z ▸ ha0))))
  have hO : ∀ x ∈ L0, x ≠ a0 → f_3 x = f0 x := fun x m h => (hq x h).trans (hO x m h)
  have w_0 : fR f_3 a0 0 = some q_1 := by rw [ef_3]; exact fR_pU_self oo rfl
  refine lv_aload_n hx hb dX9_init_13 rfl (lv_at hl 0 rfl) ?_
  refine q_iconst hx hb dX9_init_14 ?_
  refine q_puti (ci := 7) (C := RX9) (T := TX9) (N := 4) hx hb hts (fun w h => List.mem_cons_of_mem _ (mfX90 w h)) hown hK hw m_a0 o_a0 rfl 1 (by decide) (hts _ (List.mem_cons_of_mem _ (mr1 _ (List.mem_of_getElem? (i := 16) rfl)))) (fun _ h => h) tyX9 tyX9_ok nmX9 rfl (ty := .int) (by decide +kernel) rfl rfl dX9_init_15 (fun H locs hw => ?_)
  obtain ⟨f_4, ef_4⟩ : ∃ g : Nat → va_E, g = pU f_3 a0 1 (.int (iI 0)) := ⟨_, rfl⟩
  rw [← ef_4] at hw
  have oo := o_a0
  have hq : ∀ x : Nat, x ≠ a0 → f_4 x = f_3 x := fun x h => by rw [ef_4]; exact pU_ne h
  have hX : Sh f_3 f_4 := by rw [ef_4]; exact Sh_pU oo rfl rfl
  have o_a0 := hX.1 _ _ o_a0
  have o_q_1 := hX.2.1 _ _ _ o_q_1
  have hg := hg.off (fun x h => hq x (fun z => (hMc x h).elim (fun h => hn0 (z ▸ h)) (fun h => h (z ▸ ha0))))
  have hO : ∀ x ∈ L0, x ≠ a0 → f_4 x = f0 x := fun x m h => (hq x h).trans (hO x m h)
  have w_0 : fR f_4 a0 0 = some q_1 := by rw [ef_4, fR_pU (Or.inr (by decide))]; exact w_0
  have i_1 : fI f_4 a0 1 = 0 := by rw [ef_4]; exact fI_pU_self oo rfl ⟨by decide, by decide⟩
  refine lv_aload_n hx hb dX9_init_18 rfl (lv_at hl 0 rfl) ?_
  refine q_new (ci := 5) (C := RX7) (T := TX7) (N := 2) (fs := [.null, .int 0]) hx hb hts (fun w h => List.mem_cons_of_mem _ (mfX70 w h)) tyX7 tyX7_ok hown (hts _ (List.mem_cons_of_mem _ (mr1 _ (List.mem_of_getElem? (i := 17) rfl)))) (hts _ (List.mem_cons_of_mem _ (mr1 _ (List.mem_of_getElem? (i := 18) rfl)))) (hts _ (List.mem_cons_of_mem _ (mr1 _ (List.mem_of_getElem? (i := 19) rfl)))) hK hw hA rfl (by decide) (by show 0 + 1 + 1 ≤ 41; omega) (by show 0 + 168 + 2 ≤ 751; omega) dX9_init_19 (fun q_5 H n_q_5 hw => ?_)
  obtain ⟨f_6, ef_6⟩ : ∃ g : Nat → va_E, g = va_up f_4 q_5 (.inr (5, [.null, .int 0])) := ⟨_, rfl⟩
  rw [← ef_6] at hw
  have hq : ∀ x ∈ (L0 ++ [q_1]), f_6 x = f_4 x := fun x h => by rw [ef_6]; exact va_up_ne _ _ (fun z => n_q_5 (z ▸ h))
  have o_a0 := Ob_of (hq _ m_a0) o_a0
  have o_q_1 := ArI_of (hq _ m_q_1) o_q_1
  have w_0 := (fR_of (k := 0) (hq _ m_a0)).trans w_0
  have i_1 := (fI_of (k := 1) (hq _ m_a0)).trans i_1
  have hO : ∀ x ∈ L0, x ≠ a0 → f_6 x = f0 x := fun x m h => (hq x (hs x m)).trans (hO x m h)
  have hg := hg.off (fun x h => hq x (hML x h))
  have ne_a0 : a0 ≠ q_5 := fun z => n_q_5 (z ▸ m_a0)
  have m_a0 : a0 ∈ (L0 ++ [q_1]) ++ [q_5] := List.mem_append_left _ m_a0
  have ne_q_1 : q_1 ≠ q_5 := fun z => n_q_5 (z ▸ m_q_1)
  have m_q_1 : q_1 ∈ (L0 ++ [q_1]) ++ [q_5] := List.mem_append_left _ m_q_1
  have m_q_5 : q_5 ∈ (L0 ++ [q_1]) ++ [q_5] := List.mem_append_right _ (List.mem_singleton.mpr rfl)
  have nq_q_5 : q_5 ∉ L0 := fun z => n_q_5 (hs _ z)
  have nm_q_5 : q_5 ∉ (M ++ [q_1]) := fun z => n_q_5 (hML _ z)
  have hs : ∀ x ∈ L0, x ∈ (L0 ++ [q_1]) ++ [q_5] := fun x h => List.mem_append_left _ (hs x h)
  have o_q_5 : Ob f_6 q_5 5 := by rw [ef_6]; exact ⟨_, va_up_self _ _ _, rfl⟩
  have hML : ∀ x ∈ (M ++ [q_1]), x ∈ (L0 ++ [q_1]) ++ [q_5] := fun x h => List.mem_append_left _ (hML x h)
  have hc : ∀ x ∈ (L0 ++ [q_1]) ++ [q_5], x ∈ L0 ∨ x ∈ (M ++ [q_1]) ∨ x ∈ ([q_5]) := fun x h => (List.mem_append.mp h).elim (fun h => (hc x h).elim Or.inl (fun h => h.elim (fun h => Or.inr (Or.inl h)) (fun h => Or.inr (Or.inr (List.mem_append_left [q_5] h))))) (fun h => Or.inr (Or.inr (List.mem_append_right [] h)))
  refine lv_dup hx hb dX9_init_22 rfl ?_
  refine q_call_v hA hK hw (va_runI (As := []) (rest := [.ref q_5, .ref a0]) ⟨hx, hb, hml, hown, hts⟩ (c_X7_init zo l D cy ((L0 ++ [q_1]) ++ [q_5]) f_6 q_5 m_q_5 o_q_5 (M ++ [q_1]) hML hg nm_q_5 _) (cwI 0 hts (gT (inC (mr2 _ (List.mem_of_getElem? (i := 0) rfl)))) rfl rfl rfl (hts _ (List.mem_cons_of_mem _ (mr1 _ (List.mem_of_getElem? (i := 19) rfl)))) (hts _ (List.mem_cons_of_mem _ (mr1 _ (List.mem_of_getElem? (i := 22) rfl)))) (hts _ (List.mem_cons_of_mem _ (mr1 _ (List.mem_of_getElem? (i := 23) rfl)))) rfl (by decide +kernel) ⟨Nat.le_of_ble_eq_true rfl, Nat.le_of_ble_eq_true rfl⟩) (Wd.preS zo hA hZ hw hK) rfl rfl hl.1 rfl (lv_room (Nat.le_of_ble_eq_true rfl)) dX9_init_23 ⟨(by show 0 + 1 + 1 + 38 ≤ 41; omega), (by show 0 + 168 + 2 + 579 ≤ 751; omega)⟩) (fun L_9 f_8 H locs ex_7 hw => ?_)
  obtain ⟨M_10, p1, p2, p3, mg_q_5, p5, p6, hg, hq, o_q_5⟩ := ex_7
  have o_a0 := Ob_of (hq _ m_a0 ne_a0) o_a0
  have o_q_1 := ArI_of (hq _ m_q_1 ne_q_1) o_q_1
  have w_0 := (fR_of (k := 0) (hq _ m_a0 ne_a0)).trans w_0
  have i_1 := (fI_of (k := 1) (hq _ m_a0 ne_a0)).trans i_1
  have hO : ∀ x ∈ L0, x ≠ a0 → f_8 x = f0 x := fun x m h => (hq x (hs x m) (fun z => nq_q_5 (z ▸ m))).trans (hO x m h)
  have mg_q_1 := p1 _ mg_q_1
  have hMc : ∀ x ∈ M_10, x ∈ M ∨ x ∉ L0 := fun x h => (p3 x h).elim (fun h => hMc x h) (fun h => h.elim (fun h => Or.inr (by rw [h]; exact nq_q_5)) (fun h => Or.inr (fun z => h (hs x z))))
  have m_a0 := p5 _ m_a0
  have m_q_1 := p5 _ m_q_1
  have m_q_5 := p5 _ m_q_5
  have hML := p2
  have hM0 : ∀ x ∈ M, x ∈ M_10 := fun x h => p1 x (hM0 x h)
  have hs : ∀ x ∈ L0, x ∈ L_9 := fun x h => p5 x (hs x h)
  have hc : ∀ x ∈ L_9, x ∈ L0 ∨ x ∈ M_10 ∨ x ∈ ([] : List Nat) := fun x h => by
    rcases p6 x h with h | h
    · rcases hc x h with h | h | h
      · exact Or.inl h
      · exact Or.inr (Or.inl (p1 _ h))
      · rcases List.mem_append.mp (show x ∈ ([] : List Nat) ++ [q_5] from h) with h | h
        · exact Or.inr (Or.inr h)
        · exact Or.inr (Or.inl (by rw [List.mem_singleton.mp h]; exact mg_q_5))
    · exact Or.inr (Or.inl h)
  refine q_putFr (ci := 7) (C := RX9) (T := TX9) (N := 4) hx hb hts (fun w h => List.mem_cons_of_mem _ (mfX90 w h)) hown hK hw m_a0 o_a0 rfl 2 (by decide) (hts _ (List.mem_cons_of_mem _ (mr1 _ (List.mem_of_getElem? (i := 20) rfl)))) (fun _ h => h) tyX9 tyX9_ok nmX9 rfl hnm rfl (ty := tyX9 2) (by decide +kernel) rfl rfl rfl dX9_init_26 (fun H locs hw => ?_)
  obtain ⟨f_11, ef_11⟩ : ∃ g : Nat → va_E, g = pU f_8 a0 2 (.ref q_5) := ⟨_, rfl⟩
  rw [← ef_11] at hw
  have oo := o_a0
  have hq : ∀ x : Nat, x ≠ a0 → f_11 x = f_8 x := fun x h => by rw [ef_11]; exact pU_ne h
  have hX : Sh f_8 f_11 := by rw [ef_11]; exact Sh_pU oo rfl rfl
  have o_a0 := hX.1 _ _ o_a0
  have o_q_1 := hX.2.1 _ _ _ o_q_1
  have o_q_5 := hX.1 _ _ o_q_5
  have hg := hg.off (fun x h => hq x (fun z => (hMc x h).elim (fun h => hn0 (z ▸ h)) (fun h => h (z ▸ ha0))))
  have hO : ∀ x ∈ L0, x ≠ a0 → f_11 x = f0 x := fun x m h => (hq x h).trans (hO x m h)
  have w_0 : fR f_11 a0 0 = some q_1 := by rw [ef_11, fR_pU (Or.inr (by decide))]; exact w_0
  have i_1 := (show fI f_11 a0 1 = fI f_8 a0 1 by rw [ef_11]; exact fI_pU (Or.inr (by decide))).trans i_1
  have w_2 : fR f_11 a0 2 = some q_5 := by rw [ef_11]; exact fR_pU_self oo rfl
  refine lv_aload_n hx hb dX9_init_29 rfl (lv_at hl 0 rfl) ?_
  refine q_iconst hx hb dX9_init_30 ?_
  refine q_newR (n := 2) (cA := cy.2.2.2.2) (C := RX7) hx hb hown (hts _ (List.mem_cons_of_mem _ (mr1 _ (List.mem_of_getElem? (i := 17) rfl)))) (hN _ (List.mem_of_getElem? (i := 20) rfl)) 4 rfl hK hw hA (by decide) (by decide) (by show 0 + 1 + 1 + 38 + 1 ≤ 41; omega) (by show 0 + 168 + 2 + 579 + 2 ≤ 751; omega) dX9_init_31 (fun q_12 H n_q_12 hw => ?_)
  obtain ⟨f_13, ef_13⟩ : ∃ g : Nat → va_E, g = va_up f_11 q_12 (.inl (cy.2.2.2.2, 2, .inr (.inr (.inr (.inr (fun _ => none)))))) := ⟨_, rfl⟩
  rw [← ef_13] at hw
  have hq : ∀ x ∈ L_9, f_13 x = f_11 x := fun x h => by rw [ef_13]; exact va_up_ne _ _ (fun z => n_q_12 (z ▸ h))
  have o_a0 := Ob_of (hq _ m_a0) o_a0
  have o_q_1 := ArI_of (hq _ m_q_1) o_q_1
  have o_q_5 := Ob_of (hq _ m_q_5) o_q_5
  have w_0 := (fR_of (k := 0) (hq _ m_a0)).trans w_0
  have w_2 := (fR_of (k := 2) (hq _ m_a0)).trans w_2
  have i_1 := (fI_of (k := 1) (hq _ m_a0)).trans i_1
  have hO : ∀ x ∈ L0, x ≠ a0 → f_13 x = f0 x := fun x m h => (hq x (hs x m)).trans (hO x m h)
  have hg := hg.off (fun x h => hq x (hML x h))
  have ne_a0 : a0 ≠ q_12 := fun z => n_q_12 (z ▸ m_a0)
  have m_a0 : a0 ∈ L_9 ++ [q_12] := List.mem_append_left _ m_a0
  have ne_q_1 : q_1 ≠ q_12 := fun z => n_q_12 (z ▸ m_q_1)
  have m_q_1 : q_1 ∈ L_9 ++ [q_12] := List.mem_append_left _ m_q_1
  have ne_q_5 : q_5 ≠ q_12 := fun z => n_q_12 (z ▸ m_q_5)
  have m_q_5 : q_5 ∈ L_9 ++ [q_12] := List.mem_append_left _ m_q_5
  have m_q_12 : q_12 ∈ L_9 ++ [q_12] := List.mem_append_right _ (List.mem_singleton.mpr rfl)
  have nq_q_12 : q_12 ∉ L0 := fun z => n_q_12 (hs _ z)
  have nm_q_12 : q_12 ∉ M_10 := fun z => n_q_12 (hML _ z)
  have hs : ∀ x ∈ L0, x ∈ L_9 ++ [q_12] := fun x h => List.mem_append_left _ (hs x h)
  have o_q_12 : ArR f_13 q_12 cy.2.2.2.2 2 := by rw [ef_13]; exact ⟨_, va_up_self _ _ _⟩
  have hML : ∀ x ∈ M_10, x ∈ L_9 ++ [q_12] := fun x h => List.mem_append_left _ (hML x h)
  have hc : ∀ x ∈ L_9 ++ [q_12], x ∈ L0 ∨ x ∈ M_10 ∨ x ∈ ([q_12]) := fun x h => (List.mem_append.mp h).elim (fun h => (hc x h).elim Or.inl (fun h => h.elim (fun h => Or.inr (Or.inl h)) (fun h => Or.inr (Or.inr (List.mem_append_left [q_12] h))))) (fun h => Or.inr (Or.inr (List.mem_append_right [] h)))
  have hg := hg.add (q := q_12) (fun _ _ o' => absurd o_q_12 o'.notR) (fun _ _ o' => absurd o_q_12 o'.notR) (fun j o' h0 h1 => absurd (o_q_12.uniq o').2 (by decide)) (fun j o' h0 h1 => Or.inl (by rw [ef_13]; exact aR_none _ _ _ _ _))
  have mg_q_1 : q_1 ∈ M_10 ++ [q_12] := List.mem_append_left _ mg_q_1
  have mg_q_5 : q_5 ∈ M_10 ++ [q_12] := List.mem_append_left _ mg_q_5
  have mg_q_12 : q_12 ∈ M_10 ++ [q_12] := List.mem_append_right _ (List.mem_singleton.mpr rfl)
  have hML : ∀ x ∈ M_10 ++ [q_12], x ∈ (L_9 ++ [q_12]) := fun x h => (List.mem_append.mp h).elim (fun h => hML x h) (fun h => by rw [List.mem_singleton.mp h]; exact m_q_12)
  have hM0 : ∀ x ∈ M, x ∈ M_10 ++ [q_12] := fun x h => List.mem_append_left _ (hM0 x h)
  have hMc : ∀ x ∈ M_10 ++ [q_12], x ∈ M ∨ x ∉ L0 := fun x h => (List.mem_append.mp h).elim (fun h => hMc x h) (fun h => by rw [List.mem_singleton.mp h]; exact Or.inr nq_q_12)
  have hc : ∀ x ∈ (L_9 ++ [q_12]), x ∈ L0 ∨ x ∈ (M_10 ++ [q_12]) ∨ x ∈ ([] : List Nat) := fun x h => by
    rcases hc x h with h | h | h
    · exact Or.inl h
    · exact Or.inr (Or.inl (List.mem_append_left _ h))
    · rcases List.mem_append.mp (show x ∈ ([] : List Nat) ++ [q_12] from h) with h | h
      · exact Or.inr (Or.inr h)
      · exact Or.inr (Or.inl (List.mem_append_right _ h))
  refine q_putFr (ci := 7) (C := RX9) (T := TX9) (N := 4) hx hb hts (fun w h => List.mem_cons_of_mem _ (mfX90 w h)) hown hK hw m_a0 o_a0 rfl 3 (by decide) (hts _ (List.mem_cons_of_mem _ (mr1 _ (List.mem_of_getElem? (i := 21) rfl)))) (fun _ h => h) tyX9 tyX9_ok nmX9 rfl hnm rfl (ty := tyX9 3) (by decide +kernel) rfl rfl rfl dX9_init_34 (fun H locs hw => ?_)
  obtain ⟨f_14, ef_14⟩ : ∃ g : Nat → va_E, g = pU f_13 a0 3 (.ref q_12) := ⟨_, rfl⟩
  rw [← ef_14] at hw
  have oo := o_a0
  have hq : ∀ x : Nat, x ≠ a0 → f_14 x = f_13 x := fun x h => by rw [ef_14]; exact pU_ne h
  have hX : Sh f_13 f_14 := by rw [ef_14]; exact Sh_pU oo rfl rfl
  have o_a0 := hX.1 _ _ o_a0
  have o_q_1 := hX.2.1 _ _ _ o_q_1
  have o_q_5 := hX.1 _ _ o_q_5
  have o_q_12 := hX.2.2 _ _ _ o_q_12
  have hg := hg.off (fun x h => hq x (fun z => (hMc x h).elim (fun h => hn0 (z ▸ h)) (fun h => h (z ▸ ha0))))
  have hO : ∀ x ∈ L0, x ≠ a0 → f_14 x = f0 x := fun x m h => (hq x h).trans (hO x m h)
  have w_0 : fR f_14 a0 0 = some q_1 := by rw [ef_14, fR_pU (Or.inr (by decide))]; exact w_0
  have w_2 : fR f_14 a0 2 = some q_5 := by rw [ef_14, fR_pU (Or.inr (by decide))]; exact w_2
  have i_1 := (show fI f_14 a0 1 = fI f_13 a0 1 by rw [ef_14]; exact fI_pU (Or.inr (by decide))).trans i_1
  have w_3 : fR f_14 a0 3 = some q_12 := by rw [ef_14]; exact fR_pU_self oo rfl
  have q_0 : fR f_14 a0 0 = some q_1 ∧ q_1 ∈ (M_10 ++ [q_12]) ++ [a0] ∧ _ := ⟨w_0, List.mem_append_left _ mg_q_1, o_q_1⟩
  have q_2 : fR f_14 a0 2 = some q_5 ∧ q_5 ∈ (M_10 ++ [q_12]) ++ [a0] ∧ _ := ⟨w_2, List.mem_append_left _ mg_q_5, o_q_5⟩
  have q_3 : fR f_14 a0 3 = some q_12 ∧ q_12 ∈ (M_10 ++ [q_12]) ++ [a0] ∧ _ := ⟨w_3, List.mem_append_left _ mg_q_12, o_q_12⟩
  have hg := hg.addOb o_a0 (fcond_7 (by rw [i_1]; decide)) (rcond_7 q_0 q_2 q_3)
  exact q_ret_v hx hb hr hlocks hK hAe hw (by show 0 + 1 + 1 + 38 + 1 ≤ 41; omega) (by show 0 + 168 + 2 + 579 + 2 ≤ 751; omega) dX9_init_37 ⟨⟨(M_10 ++ [q_12]) ++ [a0], fun x h => List.mem_append_left _ (hM0 x h), fun x h => (List.mem_append.mp h).elim (fun h => hML x h) (fun h => by rw [List.mem_singleton.mp h]; exact m_a0), fun x h => (List.mem_append.mp h).elim (fun h => (hMc x h).elim Or.inl (fun h => Or.inr (Or.inr h))) (fun h => Or.inr (Or.inl (List.mem_singleton.mp h))), List.mem_append_right _ (List.mem_singleton.mpr rfl), hs, fun x h => (hc x h).elim Or.inl (fun h => h.elim (fun h => Or.inr (List.mem_append_left _ h)) (fun h => absurd h List.not_mem_nil)), hg, hO, o_a0⟩, i_1⟩
