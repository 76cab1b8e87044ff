set_option maxHeartbeats 4000000 in
set_option maxRecDepth 100000 in
theorem c_X6_init_1 {Z : Zt} (zo : Zok Z) (l : Launch) (D : va_G) (cy : Cy) (L0 : List Nat) (f0 : Nat → va_E) (a0 : Nat) (x1 : Int) (lx1 : -2147483648 ≤ x1) (ux1 : x1 ≤ 2147483647) (x2 : Int) (lx2 : -2147483648 ≤ x2) (ux2 : x2 ≤ 2147483647) (x3 : Int) (lx3 : -2147483648 ≤ x3) (ux3 : x3 ≤ 2147483647) (m_a0 : a0 ∈ L0) (o_a0 : Ob f0 a0 1) (M : List Nat) (hM : ∀ x ∈ M, x ∈ L0) (hg : GI cy M f0) : Cv Z l yX6_init (Cond.code yX6_init cX6_init 4 none :: TB) ({ frames := 1, cells := 0, slots := 0, locals := 20 } : Room) 0 0 D (tq cy) [.ref a0, .int (iI x1), .int (iI x2), .int (iI x3)] L0 f0 (fun (L1 : List Nat) (f1 : Nat → va_E) => L0 = L1 ∧ GI cy M f1 ∧ Ex cy f0 f1 ∧ (∀ x ∈ L0, x ≠ a0 → f1 x = f0 x) ∧ (True)) := by
  refine Cv.enter (cc := cX6_init) (n := 4) rfl (plainFor_of_name (by decide)) (Nat.le_of_ble_eq_true rfl) ?_
  intro p e s m below meth c ls A hx hb hr hts hown hlocks hnm hml hK hA hAe hw hZ hl
  have hown : s.vm.findClass RX6 = some m.cls := hown
  have hl : lv_has ls 4 [(0, .ref a0), (1, .int (iI x1)), (2, .int (iI x2)), (3, .int (iI x3))] := hl
  have hN : ZN s := (zo.2.2.2.2 _ _ _ hZ).2
  have hO : ∀ x ∈ L0, x ≠ a0 → f0 x = f0 x := fun _ _ _ => rfl
  have hE : Ex cy f0 f0 := Ex.refl cy f0
  refine lv_aload_n hx hb dX6_init_0 rfl (lv_at hl 0 rfl) ?_
  refine W.objInit hx hb hown (hts _ (List.mem_cons_of_mem _ (mr2 _ (List.mem_of_getElem? (i := 17) rfl)))) (hts _ (List.mem_cons_of_mem _ (mr1 _ (List.mem_of_getElem? (i := 12) rfl)))) (hts _ (List.mem_cons_of_mem _ (mr1 _ (List.mem_of_getElem? (i := 13) rfl)))) rfl (by rw [hml]; exact hl.1) rfl dX6_init_1 (Nat.le_of_ble_eq_true rfl) (Nat.le_of_ble_eq_true rfl) ?_
  refine W.eq (g2 := F0 m 4 ls []) rfl ?_
  refine lv_aload_n hx hb dX6_init_4 rfl (lv_at hl 0 rfl) ?_
  refine lv_iload_n hx hb dX6_init_5 rfl (lv_at hl 1 rfl) ?_
  refine q_putFi (ci := 1) (C := RX2) (T := TX2) (N := 4) hx hb hts (fun w h => List.mem_cons_of_mem _ (mfX20 w h)) hown hK hw m_a0 o_a0 rfl 0 (by decide) (hts _ (List.mem_cons_of_mem _ (mr2 _ (List.mem_of_getElem? (i := 18) rfl)))) (fun _ h => h) tyX2 tyX2_ok nmX2 rfl hnm rfl (ty := .int) (by decide +kernel) rfl rfl dX6_init_6 (fun H locs hw => ?_)
  have oo := o_a0
  obtain ⟨f_1, ef_1⟩ : ∃ g : Nat → va_E, g = pU f0 a0 0 (.int (iI x1)) := ⟨_, rfl⟩
  have hX : Ex cy f0 f_1 := by rw [ef_1]; exact Ex_pU oo rfl rfl (by decide)
  have hg : GI cy M f_1 := by rw [ef_1]; exact hg.putI oo rfl ⟨lx1, ux1⟩ trivial
  rw [← ef_1] at hw
  have hO : ∀ x ∈ L0, x ≠ a0 → f_1 x = f0 x := fun x9 m9 h9 => Eq.trans (by rw [ef_1]; exact pU_ne h9) (hO x9 m9 h9)
  have hE := hE.trans hX
  have o_a0 := hX.1.1 _ _ o_a0
  have vf_1 : fI f_1 a0 0 = x1 := by rw [ef_1]; exact fI_pU_self oo rfl ⟨lx1, ux1⟩
  refine lv_aload_n hx hb dX6_init_9 rfl (lv_at hl 0 rfl) ?_
  refine lv_iload_n hx hb dX6_init_10 rfl (lv_at hl 2 rfl) ?_
  refine q_putFi (ci := 1) (C := RX2) (T := TX2) (N := 4) hx hb hts (fun w h => List.mem_cons_of_mem _ (mfX20 w h)) hown hK hw m_a0 o_a0 rfl 1 (by decide) (hts _ (List.mem_cons_of_mem _ (mr2 _ (List.mem_of_getElem? (i := 19) rfl)))) (fun _ h => h) tyX2 tyX2_ok nmX2 rfl hnm rfl (ty := .int) (by decide +kernel) rfl rfl dX6_init_11 (fun H locs hw => ?_)
  have oo := o_a0
  obtain ⟨f_2, ef_2⟩ : ∃ g : Nat → va_E, g = pU f_1 a0 1 (.int (iI x2)) := ⟨_, rfl⟩
  have hX : Ex cy f_1 f_2 := by rw [ef_2]; exact Ex_pU oo rfl rfl (by decide)
  have hg : GI cy M f_2 := by rw [ef_2]; exact hg.putI oo rfl ⟨lx2, ux2⟩ trivial
  rw [← ef_2] at hw
  have hO : ∀ x ∈ L0, x ≠ a0 → f_2 x = f0 x := fun x9 m9 h9 => Eq.trans (by rw [ef_2]; exact pU_ne h9) (hO x9 m9 h9)
  have hE := hE.trans hX
  have o_a0 := hX.1.1 _ _ o_a0
  have vf_2 : fI f_2 a0 1 = x2 := by rw [ef_2]; exact fI_pU_self oo rfl ⟨lx2, ux2⟩
  refine lv_aload_n hx hb dX6_init_14 rfl (lv_at hl 0 rfl) ?_
  refine lv_iload_n hx hb dX6_init_15 rfl (lv_at hl 3 rfl) ?_
  refine q_putFi (ci := 1) (C := RX2) (T := TX2) (N := 4) hx hb hts (fun w h => List.mem_cons_of_mem _ (mfX20 w h)) hown hK hw m_a0 o_a0 rfl 2 (by decide) (hts _ (List.mem_cons_of_mem _ (mr2 _ (List.mem_of_getElem? (i := 20) rfl)))) (fun _ h => h) tyX2 tyX2_ok nmX2 rfl hnm rfl (ty := .int) (by decide +kernel) rfl rfl dX6_init_16 (fun H locs hw => ?_)
  have oo := o_a0
  obtain ⟨f_3, ef_3⟩ : ∃ g : Nat → va_E, g = pU f_2 a0 2 (.int (iI x3)) := ⟨_, rfl⟩
  have hX : Ex cy f_2 f_3 := by rw [ef_3]; exact Ex_pU oo rfl rfl (by decide)
  have hg : GI cy M f_3 := by rw [ef_3]; exact hg.putI oo rfl ⟨lx3, ux3⟩ trivial
  rw [← ef_3] at hw
  have hO : ∀ x ∈ L0, x ≠ a0 → f_3 x = f0 x := fun x9 m9 h9 => Eq.trans (by rw [ef_3]; exact pU_ne h9) (hO x9 m9 h9)
  have hE := hE.trans hX
  have o_a0 := hX.1.1 _ _ o_a0
  have vf_3 : fI f_3 a0 2 = x3 := by rw [ef_3]; exact fI_pU_self oo rfl ⟨lx3, ux3⟩
  exact q_ret_v hx hb hr hlocks hK hAe hw (Nat.le_of_ble_eq_true rfl) (Nat.le_of_ble_eq_true rfl) dX6_init_19 (by exact ⟨rfl, hg, hE, hO, by first | trivial | omega⟩)
set_option maxHeartbeats 4000000 in
set_option maxRecDepth 100000 in
theorem c_X6_init_2 {Z : Zt} (zo : Zok Z) (l : Launch) (D : va_G) (cy : Cy) (L0 : List Nat) (f0 : Nat → va_E) (a0 : Nat) (x1 : Int) (lx1 : -2147483648 ≤ x1) (ux1 : x1 ≤ 2147483647) (x2 : Int) (lx2 : -2147483648 ≤ x2) (ux2 : x2 ≤ 2147483647) (x3 : Int) (lx3 : -2147483648 ≤ x3) (ux3 : x3 ≤ 2147483647) (m_a0 : a0 ∈ L0) (o_a0 : Ob f0 a0 2) (M : List Nat) (hM : ∀ x ∈ M, x ∈ L0) (hg : GI cy M f0) : Cv Z l yX6_init (Cond.code yX6_init cX6_init 4 none :: TB) ({ frames := 1, cells := 0, slots := 0, locals := 20 } : Room) 0 0 D (tq cy) [.ref a0, .int (iI x1), .int (iI x2), .int (iI x3)] L0 f0 (fun (L1 : List Nat) (f1 : Nat → va_E) => L0 = L1 ∧ GI cy M f1 ∧ Ex cy f0 f1 ∧ (∀ x ∈ L0, x ≠ a0 → f1 x = f0 x) ∧ (True)) := by
  refine Cv.enter (cc := cX6_init) (n := 4) rfl (plainFor_of_name (by decide)) (Nat.le_of_ble_eq_true rfl) ?_
  intro p e s m below meth c ls A hx hb hr hts hown hlocks hnm hml hK hA hAe hw hZ hl
  have hown : s.vm.findClass RX6 = some m.cls := hown
  have hl : lv_has ls 4 [(0, .ref a0), (1, .int (iI x1)), (2, .int (iI x2)), (3, .int (iI x3))] := hl
  have hN : ZN s := (zo.2.2.2.2 _ _ _ hZ).2
  have hO : ∀ x ∈ L0, x ≠ a0 → f0 x = f0 x := fun _ _ _ => rfl
  have hE : Ex cy f0 f0 := Ex.refl cy f0
  refine lv_aload_n hx hb dX6_init_0 rfl (lv_at hl 0 rfl) ?_
  refine W.objInit hx hb hown (hts _ (List.mem_cons_of_mem _ (mr2 _ (List.mem_of_getElem? (i := 17) rfl)))) (hts _ (List.mem_cons_of_mem _ (mr1 _ (List.mem_of_getElem? (i := 12) rfl)))) (hts _ (List.mem_cons_of_mem _ (mr1 _ (List.mem_of_getElem? (i := 13) rfl)))) rfl (by rw [hml]; exact hl.1) rfl dX6_init_1 (Nat.le_of_ble_eq_true rfl) (Nat.le_of_ble_eq_true rfl) ?_
  refine W.eq (g2 := F0 m 4 ls []) rfl ?_
  refine lv_aload_n hx hb dX6_init_4 rfl (lv_at hl 0 rfl) ?_
  refine lv_iload_n hx hb dX6_init_5 rfl (lv_at hl 1 rfl) ?_
  refine q_putFi (ci := 2) (C := RX3) (T := TX3) (N := 7) hx hb hts (fun w h => List.mem_cons_of_mem _ (mfX30 w h)) hown hK hw m_a0 o_a0 rfl 0 (by decide) (hts _ (List.mem_cons_of_mem _ (mr2 _ (List.mem_of_getElem? (i := 18) rfl)))) (fun _ h => h) tyX3 tyX3_ok nmX3 rfl hnm rfl (ty := .int) (by decide +kernel) rfl rfl dX6_init_6 (fun H locs hw => ?_)
  have oo := o_a0
  obtain ⟨f_1, ef_1⟩ : ∃ g : Nat → va_E, g = pU f0 a0 0 (.int (iI x1)) := ⟨_, rfl⟩
  have hX : Ex cy f0 f_1 := by rw [ef_1]; exact Ex_pU oo rfl rfl (by decide)
  have hg : GI cy M f_1 := by rw [ef_1]; exact hg.putI oo rfl ⟨lx1, ux1⟩ trivial
  rw [← ef_1] at hw
  have hO : ∀ x ∈ L0, x ≠ a0 → f_1 x = f0 x := fun x9 m9 h9 => Eq.trans (by rw [ef_1]; exact pU_ne h9) (hO x9 m9 h9)
  have hE := hE.trans hX
  have o_a0 := hX.1.1 _ _ o_a0
  have vf_1 : fI f_1 a0 0 = x1 := by rw [ef_1]; exact fI_pU_self oo rfl ⟨lx1, ux1⟩
  refine lv_aload_n hx hb dX6_init_9 rfl (lv_at hl 0 rfl) ?_
  refine lv_iload_n hx hb dX6_init_10 rfl (lv_at hl 2 rfl) ?_
  refine q_putFi (ci := 2) (C := RX3) (T := TX3) (N := 7) hx hb hts (fun w h => List.mem_cons_of_mem _ (mfX30 w h)) hown hK hw m_a0 o_a0 rfl 1 (by decide) (hts _ (List.mem_cons_of_mem _ (mr2 _ (List.mem_of_getElem? (i := 19) rfl)))) (fun _ h => h) tyX3 tyX3_ok nmX3 rfl hnm rfl (ty := .int) (by decide +kernel) rfl rfl dX6_init_11 (fun H locs hw => ?_)
  have oo := o_a0
  obtain ⟨f_2, ef_2⟩ : ∃ g : Nat → va_E, g = pU f_1 a0 1 (.int (iI x2)) := ⟨_, rfl⟩
  have hX : Ex cy f_1 f_2 := by rw [ef_2]; exact Ex_pU oo rfl rfl (by decide)
  have hg : GI cy M f_2 := by rw [ef_2]; exact hg.putI oo rfl ⟨lx2, ux2⟩ trivial
  rw [← ef_2] at hw
  have hO : ∀ x ∈ L0, x ≠ a0 → f_2 x = f0 x := fun x9 m9 h9 => Eq.trans (by rw [ef_2]; exact pU_ne h9) (hO x9 m9 h9)
  have hE := hE.trans hX
  have o_a0 := hX.1.1 _ _ o_a0
  have vf_2 : fI f_2 a0 1 = x2 := by rw [ef_2]; exact fI_pU_self oo rfl ⟨lx2, ux2⟩
  refine lv_aload_n hx hb dX6_init_14 rfl (lv_at hl 0 rfl) ?_
  refine lv_iload_n hx hb dX6_init_15 rfl (lv_at hl 3 rfl) ?_
  refine q_putFi (ci := 2) (C := RX3) (T := TX3) (N := 7) hx hb hts (fun w h => List.mem_cons_of_mem _ (mfX30 w h)) hown hK hw m_a0 o_a0 rfl 2 (by decide) (hts _ (List.mem_cons_of_mem _ (mr2 _ (List.mem_of_getElem? (i := 20) rfl)))) (fun _ h => h) tyX3 tyX3_ok nmX3 rfl hnm rfl (ty := .int) (by decide +kernel) rfl rfl dX6_init_16 (fun H locs hw => ?_)
  have oo := o_a0
  obtain ⟨f_3, ef_3⟩ : ∃ g : Nat → va_E, g = pU f_2 a0 2 (.int (iI x3)) := ⟨_, rfl⟩
  have hX : Ex cy f_2 f_3 := by rw [ef_3]; exact Ex_pU oo rfl rfl (by decide)
  have hg : GI cy M f_3 := by rw [ef_3]; exact hg.putI oo rfl ⟨lx3, ux3⟩ trivial
  rw [← ef_3] at hw
  have hO : ∀ x ∈ L0, x ≠ a0 → f_3 x = f0 x := fun x9 m9 h9 => Eq.trans (by rw [ef_3]; exact pU_ne h9) (hO x9 m9 h9)
  have hE := hE.trans hX
  have o_a0 := hX.1.1 _ _ o_a0
  have vf_3 : fI f_3 a0 2 = x3 := by rw [ef_3]; exact fI_pU_self oo rfl ⟨lx3, ux3⟩
  exact q_ret_v hx hb hr hlocks hK hAe hw (Nat.le_of_ble_eq_true rfl) (Nat.le_of_ble_eq_true rfl) dX6_init_19 (by exact ⟨rfl, hg, hE, hO, by first | trivial | omega⟩)
set_option maxHeartbeats 4000000 in
set_option maxRecDepth 100000 in
theorem c_X6_init_3 {Z : Zt} (zo : Zok Z) (l : Launch) (D : va_G) (cy : Cy) (L0 : List Nat) (f0 : Nat → va_E) (a0 : Nat) (x1 : Int) (lx1 : -2147483648 ≤ x1) (ux1 : x1 ≤ 2147483647) (x2 : Int) (lx2 : -2147483648 ≤ x2) (ux2 : x2 ≤ 2147483647) (x3 : Int) (lx3 : -2147483648 ≤ x3) (ux3 : x3 ≤ 2147483647) (m_a0 : a0 ∈ L0) (o_a0 : Ob f0 a0 3) (M : List Nat) (hM : ∀ x ∈ M, x ∈ L0) (hg : GI cy M f0) : Cv Z l yX6_init (Cond.code yX6_init cX6_init 4 none :: TB) ({ frames := 1, cells := 0, slots := 0, locals := 20 } : Room) 0 0 D (tq cy) [.ref a0, .int (iI x1), .int (iI x2), .int (iI x3)] L0 f0 (fun (L1 : List Nat) (f1 : Nat → va_E) => L0 = L1 ∧ GI cy M f1 ∧ Ex cy f0 f1 ∧ (∀ x ∈ L0, x ≠ a0 → f1 x = f0 x) ∧ (True)) := by
  refine Cv.enter (cc := cX6_init) (n := 4) rfl (plainFor_of_name (by decide)) (Nat.le_of_ble_eq_true rfl) ?_
  intro p e s m below meth c ls A hx hb hr hts hown hlocks hnm hml hK hA hAe hw hZ hl
  have hown : s.vm.findClass RX6 = some m.cls := hown
  have hl : lv_has ls 4 [(0, .ref a0), (1, .int (iI x1)), (2, .int (iI x2)), (3, .int (iI x3))] := hl
  have hN : ZN s := (zo.2.2.2.2 _ _ _ hZ).2
  have hO : ∀ x ∈ L0, x ≠ a0 → f0 x = f0 x := fun _ _ _ => rfl
  have hE : Ex cy f0 f0 := Ex.refl cy f0
  refine lv_aload_n hx hb dX6_init_0 rfl (lv_at hl 0 rfl) ?_
  refine W.objInit hx hb hown (hts _ (List.mem_cons_of_mem _ (mr2 _ (List.mem_of_getElem? (i := 17) rfl)))) (hts _ (List.mem_cons_of_mem _ (mr1 _ (List.mem_of_getElem? (i := 12) rfl)))) (hts _ (List.mem_cons_of_mem _ (mr1 _ (List.mem_of_getElem? (i := 13) rfl)))) rfl (by rw [hml]; exact hl.1) rfl dX6_init_1 (Nat.le_of_ble_eq_true rfl) (Nat.le_of_ble_eq_true rfl) ?_
  refine W.eq (g2 := F0 m 4 ls []) rfl ?_
  refine lv_aload_n hx hb dX6_init_4 rfl (lv_at hl 0 rfl) ?_
  refine lv_iload_n hx hb dX6_init_5 rfl (lv_at hl 1 rfl) ?_
  refine q_putFi (ci := 3) (C := RX4) (T := TX4) (N := 3) hx hb hts (fun w h => List.mem_cons_of_mem _ (mfX40 w h)) hown hK hw m_a0 o_a0 rfl 0 (by decide) (hts _ (List.mem_cons_of_mem _ (mr2 _ (List.mem_of_getElem? (i := 18) rfl)))) (fun _ h => h) tyX4 tyX4_ok nmX4 rfl hnm rfl (ty := .int) (by decide +kernel) rfl rfl dX6_init_6 (fun H locs hw => ?_)
  have oo := o_a0
  obtain ⟨f_1, ef_1⟩ : ∃ g : Nat → va_E, g = pU f0 a0 0 (.int (iI x1)) := ⟨_, rfl⟩
  have hX : Ex cy f0 f_1 := by rw [ef_1]; exact Ex_pU oo rfl rfl (by decide)
  have hg : GI cy M f_1 := by rw [ef_1]; exact hg.putI oo rfl ⟨lx1, ux1⟩ trivial
  rw [← ef_1] at hw
  have hO : ∀ x ∈ L0, x ≠ a0 → f_1 x = f0 x := fun x9 m9 h9 => Eq.trans (by rw [ef_1]; exact pU_ne h9) (hO x9 m9 h9)
  have hE := hE.trans hX
  have o_a0 := hX.1.1 _ _ o_a0
  have vf_1 : fI f_1 a0 0 = x1 := by rw [ef_1]; exact fI_pU_self oo rfl ⟨lx1, ux1⟩
  refine lv_aload_n hx hb dX6_init_9 rfl (lv_at hl 0 rfl) ?_
  refine lv_iload_n hx hb dX6_init_10 rfl (lv_at hl 2 rfl) ?_
  refine q_putFi (ci := 3) (C := RX4) (T := TX4) (N := 3) hx hb hts (fun w h => List.mem_cons_of_mem _ (mfX40 w h)) hown hK hw m_a0 o_a0 rfl 1 (by decide) (hts _ (List.mem_cons_of_mem _ (mr2 _ (List.mem_of_getElem? (i := 19) rfl)))) (fun _ h => h) tyX4 tyX4_ok nmX4 rfl hnm rfl (ty := .int) (by decide +kernel) rfl rfl dX6_init_11 (fun H locs hw => ?_)
  have oo := o_a0
  obtain ⟨f_2, ef_2⟩ : ∃ g : Nat → va_E, g = pU f_1 a0 1 (.int (iI x2)) := ⟨_, rfl⟩
  have hX : Ex cy f_1 f_2 := by rw [ef_2]; exact Ex_pU oo rfl rfl (by decide)
  have hg : GI cy M f_2 := by rw [ef_2]; exact hg.putI oo rfl ⟨lx2, ux2⟩ trivial
  rw [← ef_2] at hw
  have hO : ∀ x ∈ L0, x ≠ a0 → f_2 x = f0 x := fun x9 m9 h9 => Eq.trans (by rw [ef_2]; exact pU_ne h9) (hO x9 m9 h9)
  have hE := hE.trans hX
  have o_a0 := hX.1.1 _ _ o_a0
  have vf_2 : fI f_2 a0 1 = x2 := by rw [ef_2]; exact fI_pU_self oo rfl ⟨lx2, ux2⟩
  refine lv_aload_n hx hb dX6_init_14 rfl (lv_at hl 0 rfl) ?_
  refine lv_iload_n hx hb dX6_init_15 rfl (lv_at hl 3 rfl) ?_
  refine q_putFi (ci := 3) (C := RX4) (T := TX4) (N := 3) hx hb hts (fun w h => List.mem_cons_of_mem _ (mfX40 w h)) hown hK hw m_a0 o_a0 rfl 2 (by decide) (hts _ (List.mem_cons_of_mem _ (mr2 _ (List.mem_of_getElem? (i := 20) rfl)))) (fun _ h => h) tyX4 tyX4_ok nmX4 rfl hnm rfl (ty := .int) (by decide +kernel) rfl rfl dX6_init_16 (fun H locs hw => ?_)
  have oo := o_a0
  obtain ⟨f_3, ef_3⟩ : ∃ g : Nat → va_E, g = pU f_2 a0 2 (.int (iI x3)) := ⟨_, rfl⟩
  have hX : Ex cy f_2 f_3 := by rw [ef_3]; exact Ex_pU oo rfl rfl (by decide)
  have hg : GI cy M f_3 := by rw [ef_3]; exact hg.putI oo rfl ⟨lx3, ux3⟩ trivial
  rw [← ef_3] at hw
  have hO : ∀ x ∈ L0, x ≠ a0 → f_3 x = f0 x := fun x9 m9 h9 => Eq.trans (by rw [ef_3]; exact pU_ne h9) (hO x9 m9 h9)
  have hE := hE.trans hX
  have o_a0 := hX.1.1 _ _ o_a0
  have vf_3 : fI f_3 a0 2 = x3 := by rw [ef_3]; exact fI_pU_self oo rfl ⟨lx3, ux3⟩
  exact q_ret_v hx hb hr hlocks hK hAe hw (Nat.le_of_ble_eq_true rfl) (Nat.le_of_ble_eq_true rfl) dX6_init_19 (by exact ⟨rfl, hg, hE, hO, by first | trivial | omega⟩)
set_option maxHeartbeats 4000000 in
set_option maxRecDepth 100000 in
theorem c_X6_init_6 {Z : Zt} (zo : Zok Z) (l : Launch) (D : va_G) (cy : Cy) (L0 : List Nat) (f0 : Nat → va_E) (a0 : Nat) (x1 : Int) (lx1 : -2147483648 ≤ x1) (ux1 : x1 ≤ 2147483647) (x2 : Int) (lx2 : -2147483648 ≤ x2) (ux2 : x2 ≤ 2147483647) (x3 : Int) (lx3 : -2147483648 ≤ x3) (ux3 : x3 ≤ 2147483647) (m_a0 : a0 ∈ L0) (o_a0 : Ob f0 a0 6) (M : List Nat) (hM : ∀ x ∈ M, x ∈ L0) (hg : GI cy M f0) : Cv Z l yX6_init (Cond.code yX6_init cX6_init 4 none :: TB) ({ frames := 1, cells := 0, slots := 0, locals := 20 } : Room) 0 0 D (tq cy) [.ref a0, .int (iI x1), .int (iI x2), .int (iI x3)] L0 f0 (fun (L1 : List Nat) (f1 : Nat → va_E) => L0 = L1 ∧ GI cy M f1 ∧ Ex cy f0 f1 ∧ (∀ x ∈ L0, x ≠ a0 → f1 x = f0 x) ∧ (True)) := by
  refine Cv.enter (cc := cX6_init) (n := 4) rfl (plainFor_of_name (by decide)) (Nat.le_of_ble_eq_true rfl) ?_
  intro p e s m below meth c ls A hx hb hr hts hown hlocks hnm hml hK hA hAe hw hZ hl
  have hown : s.vm.findClass RX6 = some m.cls := hown
  have hl : lv_has ls 4 [(0, .ref a0), (1, .int (iI x1)), (2, .int (iI x2)), (3, .int (iI x3))] := hl
  have hN : ZN s := (zo.2.2.2.2 _ _ _ hZ).2
  have hO : ∀ x ∈ L0, x ≠ a0 → f0 x = f0 x := fun _ _ _ => rfl
  have hE : Ex cy f0 f0 := Ex.refl cy f0
  refine lv_aload_n hx hb dX6_init_0 rfl (lv_at hl 0 rfl) ?_
  refine W.objInit hx hb hown (hts _ (List.mem_cons_of_mem _ (mr2 _ (List.mem_of_getElem? (i := 17) rfl)))) (hts _ (List.mem_cons_of_mem _ (mr1 _ (List.mem_of_getElem? (i := 12) rfl)))) (hts _ (List.mem_cons_of_mem _ (mr1 _ (List.mem_of_getElem? (i := 13) rfl)))) rfl (by rw [hml]; exact hl.1) rfl dX6_init_1 (Nat.le_of_ble_eq_true rfl) (Nat.le_of_ble_eq_true rfl) ?_
  refine W.eq (g2 := F0 m 4 ls []) rfl ?_
  refine lv_aload_n hx hb dX6_init_4 rfl (lv_at hl 0 rfl) ?_
  refine lv_iload_n hx hb dX6_init_5 rfl (lv_at hl 1 rfl) ?_
  refine q_putFi (ci := 6) (C := RX8) (T := TX8) (N := 6) hx hb hts (fun w h => List.mem_cons_of_mem _ (mfX80 w h)) hown hK hw m_a0 o_a0 rfl 0 (by decide) (hts _ (List.mem_cons_of_mem _ (mr2 _ (List.mem_of_getElem? (i := 18) rfl)))) (fun _ h => h) tyX8 tyX8_ok nmX8 rfl hnm rfl (ty := .int) (by decide +kernel) rfl rfl dX6_init_6 (fun H locs hw => ?_)
  have oo := o_a0
  obtain ⟨f_1, ef_1⟩ : ∃ g : Nat → va_E, g = pU f0 a0 0 (.int (iI x1)) := ⟨_, rfl⟩
  have hX : Ex cy f0 f_1 := by rw [ef_1]; exact Ex_pU oo rfl rfl (by decide)
  have hg : GI cy M f_1 := by rw [ef_1]; exact hg.putI oo rfl ⟨lx1, ux1⟩ trivial
  rw [← ef_1] at hw
  have hO : ∀ x ∈ L0, x ≠ a0 → f_1 x = f0 x := fun x9 m9 h9 => Eq.trans (by rw [ef_1]; exact pU_ne h9) (hO x9 m9 h9)
  have hE := hE.trans hX
  have o_a0 := hX.1.1 _ _ o_a0
  have vf_1 : fI f_1 a0 0 = x1 := by rw [ef_1]; exact fI_pU_self oo rfl ⟨lx1, ux1⟩
  refine lv_aload_n hx hb dX6_init_9 rfl (lv_at hl 0 rfl) ?_
  refine lv_iload_n hx hb dX6_init_10 rfl (lv_at hl 2 rfl) ?_
  refine q_putFi (ci := 6) (C := RX8) (T := TX8) (N := 6) hx hb hts (fun w h => List.mem_cons_of_mem _ (mfX80 w h)) hown hK hw m_a0 o_a0 rfl 1 (by decide) (hts _ (List.mem_cons_of_mem _ (mr2 _ (List.mem_of_getElem? (i := 19) rfl)))) (fun _ h => h) tyX8 tyX8_ok nmX8 rfl hnm rfl (ty := .int) (by decide +kernel) rfl rfl dX6_init_11 (fun H locs hw => ?_)
  have oo := o_a0
  obtain ⟨f_2, ef_2⟩ : ∃ g : Nat → va_E, g = pU f_1 a0 1 (.int (iI x2)) := ⟨_, rfl⟩
  have hX : Ex cy f_1 f_2 := by rw [ef_2]; exact Ex_pU oo rfl rfl (by decide)
  have hg : GI cy M f_2 := by rw [ef_2]; exact hg.putI oo rfl ⟨lx2, ux2⟩ trivial
  rw [← ef_2] at hw
  have hO : ∀ x ∈ L0, x ≠ a0 → f_2 x = f0 x := fun x9 m9 h9 => Eq.trans (by rw [ef_2]; exact pU_ne h9) (hO x9 m9 h9)
  have hE := hE.trans hX
  have o_a0 := hX.1.1 _ _ o_a0
  have vf_2 : fI f_2 a0 1 = x2 := by rw [ef_2]; exact fI_pU_self oo rfl ⟨lx2, ux2⟩
  refine lv_aload_n hx hb dX6_init_14 rfl (lv_at hl 0 rfl) ?_
  refine lv_iload_n hx hb dX6_init_15 rfl (lv_at hl 3 rfl) ?_
  refine q_putFi (ci := 6) (C := RX8) (T := TX8) (N := 6) hx hb hts (fun w h => List.mem_cons_of_mem _ (mfX80 w h)) hown hK hw m_a0 o_a0 rfl 2 (by decide) (hts _ (List.mem_cons_of_mem _ (mr2 _ (List.mem_of_getElem? (i := 20) rfl)))) (fun _ h => h) tyX8 tyX8_ok nmX8 rfl hnm rfl (ty := .int) (by decide +kernel) rfl rfl dX6_init_16 (fun H locs hw => ?_)
  have oo := o_a0
  obtain ⟨f_3, ef_3⟩ : ∃ g : Nat → va_E, g = pU f_2 a0 2 (.int (iI x3)) := ⟨_, rfl⟩
  have hX : Ex cy f_2 f_3 := by rw [ef_3]; exact Ex_pU oo rfl rfl (by decide)
  have hg : GI cy M f_3 := by rw [ef_3]; exact hg.putI oo rfl ⟨lx3, ux3⟩ trivial
  rw [← ef_3] at hw
  have hO : ∀ x ∈ L0, x ≠ a0 → f_3 x = f0 x := fun x9 m9 h9 => Eq.trans (by rw [ef_3]; exact pU_ne h9) (hO x9 m9 h9)
  have hE := hE.trans hX
  have o_a0 := hX.1.1 _ _ o_a0
  have vf_3 : fI f_3 a0 2 = x3 := by rw [ef_3]; exact fI_pU_self oo rfl ⟨lx3, ux3⟩
  exact q_ret_v hx hb hr hlocks hK hAe hw (Nat.le_of_ble_eq_true rfl) (Nat.le_of_ble_eq_true rfl) dX6_init_19 (by exact ⟨rfl, hg, hE, hO, by first | trivial | omega⟩)
set_option maxHeartbeats 4000000 in
set_option maxRecDepth 100000 in
theorem c_X4_init {Z : Zt} (zo : Zok Z) (l : Launch) (D : va_G) (cy : Cy) (L0 : List Nat) (f0 : Nat → va_E) (a0 : Nat) (x1 : Int) (lx1 : -2147483648 ≤ x1) (ux1 : x1 ≤ 2147483647) (m_a0 : a0 ∈ L0) (o_a0 : Ob f0 a0 3) (M : List Nat) (hM : ∀ x ∈ M, x ∈ L0) (hg : GI cy M f0) : Cv Z l yX4_init (Cond.code yX4_init cX4_init 2 none :: TB) ({ frames := 2, cells := 0, slots := 0, locals := 43 } : Room) 0 0 D (tq cy) [.ref a0, .int (iI x1)] L0 f0 (fun (L1 : List Nat) (f1 : Nat → va_E) => L0 = L1 ∧ GI cy M f1 ∧ Ex cy f0 f1 ∧ (∀ x ∈ L0, x ≠ a0 → f1 x = f0 x) ∧ (True)) := by
  refine Cv.enter (cc := cX4_init) (n := 2) rfl (plainFor_of_name (by decide)) (Nat.le_of_ble_eq_true rfl) ?_
  intro p e s m below meth c ls A hx hb hr hts hown hlocks hnm hml hK hA hAe hw hZ hl
  have hown : s.vm.findClass RX4 = some m.cls := hown
  have hl : lv_has ls 2 [(0, .ref a0), (1, .int (iI x1))] := hl
  have hN : ZN s := (zo.2.2.2.2 _ _ _ hZ).2
  have hO : ∀ x ∈ L0, x ≠ a0 → f0 x = f0 x := fun _ _ _ => rfl
  have hE : Ex cy f0 f0 := Ex.refl cy f0
  refine lv_aload_n hx hb dX4_init_0 rfl (lv_at hl 0 rfl) ?_
  refine q_iconst hx hb dX4_init_1 ?_
  refine q_iconst hx hb dX4_init_2 ?_
  refine lv_iload_n hx hb dX4_init_3 rfl (lv_at hl 1 rfl) ?_
  refine q_call_v hA hK hw (va_runI (As := [.int (iI 0), .int (iI 0), .int (iI x1)]) (rest := []) ⟨hx, hb, hml, hown, hts⟩ (c_X6_init_3 zo l D cy L0 f0 a0 0 (by decide) (by decide) 0 (by decide) (by decide) x1 lx1 ux1 m_a0 o_a0 (M) hM hg _) (cwI 3 hts (gT (inC (mr2 _ (List.mem_of_getElem? (i := 16) rfl)))) rfl rfl rfl (hts _ (List.mem_cons_of_mem _ (mr2 _ (List.mem_of_getElem? (i := 15) rfl)))) (hts _ (List.mem_cons_of_mem _ (mr2 _ (List.mem_of_getElem? (i := 13) rfl)))) (hts _ (List.mem_cons_of_mem _ (mr2 _ (List.mem_of_getElem? (i := 14) rfl)))) rfl (by decide +kernel) ⟨Nat.le_of_ble_eq_true rfl, Nat.le_of_ble_eq_true rfl⟩) (Wd.preS zo hA hZ hw hK) rfl rfl hl.1 rfl (lv_room (Nat.le_of_ble_eq_true rfl)) dX4_init_4 ⟨Nat.le_of_ble_eq_true rfl, Nat.le_of_ble_eq_true rfl⟩) (fun L1 f_2 H locs ex_1 hw => ?_)
  obtain ⟨rfl, hg, hX, ex_1⟩ := ex_1
  have hE := hE.trans hX
  have o_a0 := hX.1.1 _ _ o_a0
  have hO : ∀ x ∈ L0, x ≠ a0 → f_2 x = f0 x := fun x9 m9 h9 => (ex_1.1 x9 m9 h9).trans (hO x9 m9 h9)
  have ex_1 := ex_1.2
  exact q_ret_v hx hb hr hlocks hK hAe hw (Nat.le_of_ble_eq_true rfl) (Nat.le_of_ble_eq_true rfl) dX4_init_7 (by exact ⟨rfl, hg, hE, hO, by first | trivial | omega⟩)
set_option maxHeartbeats 4000000 in
set_option maxRecDepth 100000 in
theorem c_X2_init {Z : Zt} (zo : Zok Z) (l : Launch) (D : va_G) (cy : Cy) (L0 : List Nat) (f0 : Nat → va_E) (a0 : Nat) (x1 : Int) (lx1 : -2147483648 ≤ x1) (ux1 : x1 ≤ 2147483647) (x2 : Int) (lx2 : -2147483648 ≤ x2) (ux2 : x2 ≤ 2147483647) (m_a0 : a0 ∈ L0) (o_a0 : Ob f0 a0 1) (M : List Nat) (hM : ∀ x ∈ M, x ∈ L0) (hg : GI cy M f0) : Cv Z l yX2_init (Cond.code yX2_init cX2_init 3 none :: TB) ({ frames := 2, cells := 0, slots := 0, locals := 43 } : Room) 0 0 D (tq cy) [.ref a0, .int (iI x1), .int (iI x2)] L0 f0 (fun (L1 : List Nat) (f1 : Nat → va_E) => L0 = L1 ∧ GI cy M f1 ∧ Ex cy f0 f1 ∧ (∀ x ∈ L0, x ≠ a0 → f1 x = f0 x) ∧ (1 ≤ fI f1 a0 3)) := by
  refine Cv.enter (cc := cX2_init) (n := 3) rfl (plainFor_of_name (by decide)) (Nat.le_of_ble_eq_true rfl) ?_
  intro p e s m below meth c ls A hx hb hr hts hown hlocks hnm hml hK hA hAe hw hZ hl
  have hown : s.vm.findClass RX2 = some m.cls := hown
  have hl : lv_has ls 3 [(0, .ref a0), (1, .int (iI x1)), (2, .int (iI x2))] := hl
  have hN : ZN s := (zo.2.2.2.2 _ _ _ hZ).2
  have hO : ∀ x ∈ L0, x ≠ a0 → f0 x = f0 x := fun _ _ _ => rfl
  have hE : Ex cy f0 f0 := Ex.refl cy f0
  refine lv_aload_n hx hb dX2_init_0 rfl (lv_at hl 0 rfl) ?_
  refine q_iconst hx hb dX2_init_1 ?_
  refine lv_iload_n hx hb dX2_init_2 rfl (lv_at hl 1 rfl) ?_
  refine lv_iload_n hx hb dX2_init_3 rfl (lv_at hl 2 rfl) ?_
  refine q_call_v hA hK hw (va_runI (As := [.int (iI 1), .int (iI x1), .int (iI x2)]) (rest := []) ⟨hx, hb, hml, hown, hts⟩ (c_X6_init_1 zo l D cy L0 f0 a0 1 (by decide) (by decide) x1 lx1 ux1 x2 lx2 ux2 m_a0 o_a0 (M) hM hg _) (cwI 3 hts (gT (inC (mr2 _ (List.mem_of_getElem? (i := 16) rfl)))) rfl rfl rfl (hts _ (List.mem_cons_of_mem _ (mr2 _ (List.mem_of_getElem? (i := 15) rfl)))) (hts _ (List.mem_cons_of_mem _ (mr13 _ (List.mem_of_getElem? (i := 3) rfl)))) (hts _ (List.mem_cons_of_mem _ (mr2 _ (List.mem_of_getElem? (i := 14) rfl)))) rfl (by decide +kernel) ⟨Nat.le_of_ble_eq_true rfl, Nat.le_of_ble_eq_true rfl⟩) (Wd.preS zo hA hZ hw hK) rfl rfl hl.1 rfl (lv_room (Nat.le_of_ble_eq_true rfl)) dX2_init_4 ⟨Nat.le_of_ble_eq_true rfl, Nat.le_of_ble_eq_true rfl⟩) (fun L1 f_2 H locs ex_1 hw => ?_)
  obtain ⟨rfl, hg, hX, ex_1⟩ := ex_1
  have hE := hE.trans hX
  have o_a0 := hX.1.1 _ _ o_a0
  have hO : ∀ x ∈ L0, x ≠ a0 → f_2 x = f0 x := fun x9 m9 h9 => (ex_1.1 x9 m9 h9).trans (hO x9 m9 h9)
  have ex_1 := ex_1.2
  refine lv_aload_n hx hb dX2_init_7 rfl (lv_at hl 0 rfl) ?_
  refine lv_iload_n hx hb dX2_init_8 rfl (lv_at hl 1 rfl) ?_
  refine q_iconst hx hb dX2_init_9 ?_
  refine q_max hx hb (hml.trans hl.1.symm) hown (hts _ (List.mem_cons_of_mem _ (mr12 _ (List.mem_of_getElem? (i := 23) rfl)))) (hts _ (List.mem_cons_of_mem _ (mr13 _ (List.mem_of_getElem? (i := 0) rfl)))) (hts _ (List.mem_cons_of_mem _ (mr6 _ (List.mem_of_getElem? (i := 14) rfl)))) (hts _ (List.mem_cons_of_mem _ (mr13 _ (List.mem_of_getElem? (i := 1) rfl)))) (Nat.le_of_ble_eq_true rfl) (Nat.le_of_ble_eq_true rfl) (Nat.le_of_ble_eq_true rfl) (Nat.le_of_ble_eq_true rfl) ⟨lx1, ux1⟩ ⟨by decide, by decide⟩ dX2_init_10 (fun x_3 lx_3 ux_3 ex_3 => ?_)
  refine q_putFi (ci := 1) (C := RX2) (T := TX2) (N := 4) hx hb hts (fun w h => List.mem_cons_of_mem _ (mfX20 w h)) hown hK hw m_a0 o_a0 rfl 3 (by decide) (hts _ (List.mem_cons_of_mem _ (mr13 _ (List.mem_of_getElem? (i := 2) rfl)))) (fun _ h => h) tyX2 tyX2_ok nmX2 rfl hnm rfl (ty := .int) (by decide +kernel) rfl rfl dX2_init_13 (fun H locs hw => ?_)
  have oo := o_a0
  obtain ⟨f_4, ef_4⟩ : ∃ g : Nat → va_E, g = pU f_2 a0 3 (.int (iI x_3)) := ⟨_, rfl⟩
  have hX : Ex cy f_2 f_4 := by rw [ef_4]; exact Ex_pU oo rfl rfl (by decide)
  have hg : GI cy M f_4 := by rw [ef_4]; exact hg.putI oo rfl ⟨lx_3, ux_3⟩ (by show 1 ≤ x_3; omega)
  rw [← ef_4] at hw
  have hO : ∀ x ∈ L0, x ≠ a0 → f_4 x = f0 x := fun x9 m9 h9 => Eq.trans (by rw [ef_4]; exact pU_ne h9) (hO x9 m9 h9)
  have hE := hE.trans hX
  have o_a0 := hX.1.1 _ _ o_a0
  have vf_4 : fI f_4 a0 3 = x_3 := by rw [ef_4]; exact fI_pU_self oo rfl ⟨lx_3, ux_3⟩
  exact q_ret_v hx hb hr hlocks hK hAe hw (Nat.le_of_ble_eq_true rfl) (Nat.le_of_ble_eq_true rfl) dX2_init_16 (by exact ⟨rfl, hg, hE, hO, by first | trivial | omega⟩)
set_option maxHeartbeats 4000000 in
set_option maxRecDepth 100000 in
theorem c_X8_init {Z : Zt} (zo : Zok Z) (l : Launch) (D : va_G) (cy : Cy) (L0 : List Nat) (f0 : Nat → va_E) (a0 : Nat) (x1 : Int) (lx1 : -2147483648 ≤ x1) (ux1 : x1 ≤ 2147483647) (x2 : Int) (lx2 : -2147483648 ≤ x2) (ux2 : x2 ≤ 2147483647) (x3 : Int) (lx3 : -2147483648 ≤ x3) (ux3 : x3 ≤ 2147483647) (m_a0 : a0 ∈ L0) (o_a0 : Ob f0 a0 6) (M : List Nat) (hM : ∀ x ∈ M, x ∈ L0) (hg : GI cy M f0) : Cv Z l yX8_init (Cond.code yX8_init cX8_init 4 none :: TB) ({ frames := 2, cells := 0, slots := 0, locals := 43 } : Room) 0 0 D (tq cy) [.ref a0, .int (iI x1), .int (iI x2), .int (iI x3)] L0 f0 (fun (L1 : List Nat) (f1 : Nat → va_E) => L0 = L1 ∧ GI cy M f1 ∧ Ex cy f0 f1 ∧ (∀ x ∈ L0, x ≠ a0 → f1 x = f0 x) ∧ (1 ≤ fI f1 a0 3)) := by
  refine Cv.enter (cc := cX8_init) (n := 4) rfl (plainFor_of_name (by decide)) (Nat.le_of_ble_eq_true rfl) ?_
  intro p e s m below meth c ls A hx hb hr hts hown hlocks hnm hml hK hA hAe hw hZ hl
  have hown : s.vm.findClass RX8 = some m.cls := hown
  have hl : lv_has ls 4 [(0, .ref a0), (1, .int (iI x1)), (2, .int (iI x2)), (3, .int (iI x3))] := hl
  have hN : ZN s := (zo.2.2.2.2 _ _ _ hZ).2
  have hO : ∀ x ∈ L0, x ≠ a0 → f0 x = f0 x := fun _ _ _ => rfl
  have hE : Ex cy f0 f0 := Ex.refl cy f0
  refine lv_aload_n hx hb dX8_init_0 rfl (lv_at hl 0 rfl) ?_
  refine q_iconst hx hb dX8_init_1 ?_
  refine lv_iload_n hx hb dX8_init_2 rfl (lv_at hl 1 rfl) ?_
  refine lv_iload_n hx hb dX8_init_3 rfl (lv_at hl 2 rfl) ?_
  refine q_call_v hA hK hw (va_runI (As := [.int (iI 2), .int (iI x1), .int (iI x2)]) (rest := []) ⟨hx, hb, hml, hown, hts⟩ (c_X6_init_6 zo l D cy L0 f0 a0 2 (by decide) (by decide) x1 lx1 ux1 x2 lx2 ux2 m_a0 o_a0 (M) hM hg _) (cwI 3 hts (gT (inC (mr2 _ (List.mem_of_getElem? (i := 16) rfl)))) rfl rfl rfl (hts _ (List.mem_cons_of_mem _ (mr2 _ (List.mem_of_getElem? (i := 15) rfl)))) (hts _ (List.mem_cons_of_mem _ (mr13 _ (List.mem_of_getElem? (i := 11) rfl)))) (hts _ (List.mem_cons_of_mem _ (mr2 _ (List.mem_of_getElem? (i := 14) rfl)))) rfl (by decide +kernel) ⟨Nat.le_of_ble_eq_true rfl, Nat.le_of_ble_eq_true rfl⟩) (Wd.preS zo hA hZ hw hK) rfl rfl hl.1 rfl (lv_room (Nat.le_of_ble_eq_true rfl)) dX8_init_4 ⟨Nat.le_of_ble_eq_true rfl, Nat.le_of_ble_eq_true rfl⟩) (fun L1 f_2 H locs ex_1 hw => ?_)
  obtain ⟨rfl, hg, hX, ex_1⟩ := ex_1
  have hE := hE.trans hX
  have o_a0 := hX.1.1 _ _ o_a0
  have hO : ∀ x ∈ L0, x ≠ a0 → f_2 x = f0 x := fun x9 m9 h9 => (ex_1.1 x9 m9 h9).trans (hO x9 m9 h9)
  have ex_1 := ex_1.2
  refine lv_aload_n hx hb dX8_init_7 rfl (lv_at hl 0 rfl) ?_
  refine lv_iload_n hx hb dX8_init_8 rfl (lv_at hl 1 rfl) ?_
  refine q_iconst hx hb dX8_init_9 ?_
  refine q_max hx hb (hml.trans hl.1.symm) hown (hts _ (List.mem_cons_of_mem _ (mr13 _ (List.mem_of_getElem? (i := 7) rfl)))) (hts _ (List.mem_cons_of_mem _ (mr13 _ (List.mem_of_getElem? (i := 0) rfl)))) (hts _ (List.mem_cons_of_mem _ (mr6 _ (List.mem_of_getElem? (i := 14) rfl)))) (hts _ (List.mem_cons_of_mem _ (mr13 _ (List.mem_of_getElem? (i := 1) rfl)))) (Nat.le_of_ble_eq_true rfl) (Nat.le_of_ble_eq_true rfl) (Nat.le_of_ble_eq_true rfl) (Nat.le_of_ble_eq_true rfl) ⟨lx1, ux1⟩ ⟨by decide, by decide⟩ dX8_init_10 (fun x_3 lx_3 ux_3 ex_3 => ?_)
  refine q_putFi (ci := 6) (C := RX8) (T := TX8) (N := 6) hx hb hts (fun w h => List.mem_cons_of_mem _ (mfX80 w h)) hown hK hw m_a0 o_a0 rfl 3 (by decide) (hts _ (List.mem_cons_of_mem _ (mr13 _ (List.mem_of_getElem? (i := 8) rfl)))) (fun _ h => h) tyX8 tyX8_ok nmX8 rfl hnm rfl (ty := .int) (by decide +kernel) rfl rfl dX8_init_13 (fun H locs hw => ?_)
  have oo := o_a0
  obtain ⟨f_4, ef_4⟩ : ∃ g : Nat → va_E, g = pU f_2 a0 3 (.int (iI x_3)) := ⟨_, rfl⟩
  have hX : Ex cy f_2 f_4 := by rw [ef_4]; exact Ex_pU oo rfl rfl (by decide)
  have hg : GI cy M f_4 := by rw [ef_4]; exact hg.putI oo rfl ⟨lx_3, ux_3⟩ (by show 1 ≤ x_3; omega)
  rw [← ef_4] at hw
  have hO : ∀ x ∈ L0, x ≠ a0 → f_4 x = f0 x := fun x9 m9 h9 => Eq.trans (by rw [ef_4]; exact pU_ne h9) (hO x9 m9 h9)
  have hE := hE.trans hX
  have o_a0 := hX.1.1 _ _ o_a0
  have vf_4 : fI f_4 a0 3 = x_3 := by rw [ef_4]; exact fI_pU_self oo rfl ⟨lx_3, ux_3⟩
  refine lv_aload_n hx hb dX8_init_16 rfl (lv_at hl 0 rfl) ?_
  refine lv_iload_n hx hb dX8_init_17 rfl (lv_at hl 3 rfl) ?_
  refine q_putFi (ci := 6) (C := RX8) (T := TX8) (N := 6) hx hb hts (fun w h => List.mem_cons_of_mem _ (mfX80 w h)) hown hK hw m_a0 o_a0 rfl 4 (by decide) (hts _ (List.mem_cons_of_mem _ (mr13 _ (List.mem_of_getElem? (i := 9) rfl)))) (fun _ h => h) tyX8 tyX8_ok nmX8 rfl hnm rfl (ty := .int) (by decide +kernel) rfl rfl dX8_init_18 (fun H locs hw => ?_)
  have oo := o_a0
  obtain ⟨f_5, ef_5⟩ : ∃ g : Nat → va_E, g = pU f_4 a0 4 (.int (iI x3)) := ⟨_, rfl⟩
  have hX : Ex cy f_4 f_5 := by rw [ef_5]; exact Ex_pU oo rfl rfl (by decide)
  have hg : GI cy M f_5 := by rw [ef_5]; exact hg.putI oo rfl ⟨lx3, ux3⟩ trivial
  rw [← ef_5] at hw
  have hO : ∀ x ∈ L0, x ≠ a0 → f_5 x = f0 x := fun x9 m9 h9 => Eq.trans (by rw [ef_5]; exact pU_ne h9) (hO x9 m9 h9)
  have hE := hE.trans hX
  have o_a0 := hX.1.1 _ _ o_a0
  have t_a0_3_f_5 : fI f_5 a0 3 = fI f_4 a0 3 := by rw [ef_5]; exact fI_pU (Or.inr (by decide))
  have vf_5 : fI f_5 a0 4 = x3 := by rw [ef_5]; exact fI_pU_self oo rfl ⟨lx3, ux3⟩
  refine lv_aload_n hx hb dX8_init_21 rfl (lv_at hl 0 rfl) ?_
  refine lv_iload_n hx hb dX8_init_22 rfl (lv_at hl 2 rfl) ?_
  refine lv_iload_n hx hb dX8_init_23 rfl (lv_at hl 2 rfl) ?_
  refine q_call_i hA hK hw (va_runSN (As := [.int (iI x2)]) (rest := [.int (iI x2), .ref a0]) ⟨hx, hb, hml, hown, hts⟩ (c_X1_weekdayOf zo l D cy L0 f_5 x2 lx2 ux2 _) ⟨va_cnB 1 hts (gT (inC (mr13 _ (List.mem_of_getElem? (i := 13) rfl)))) rfl rfl rfl (hN _ (List.mem_of_getElem? (i := 4) rfl)) (hts _ (List.mem_cons_of_mem _ (mr11 _ (List.mem_of_getElem? (i := 20) rfl)))) (by decide +kernel) ⟨Nat.le_of_ble_eq_true rfl, Nat.le_of_ble_eq_true rfl⟩, (hts _ (List.mem_cons_of_mem _ (mr13 _ (List.mem_of_getElem? (i := 12) rfl)))), trivial⟩ (Wd.preS zo hA hZ hw hK) rfl rfl hl.1 rfl (lv_room (Nat.le_of_ble_eq_true rfl)) dX8_init_24 ⟨Nat.le_of_ble_eq_true rfl, Nat.le_of_ble_eq_true rfl⟩) (fun x_6 L1 f1 H locs lx_6 ux_6 ex_6 hw => ?_)
  obtain ⟨rfl, rfl, ex_6⟩ := ex_6
  first | refine q_isub hx hb dX8_init_27 ⟨by omega, by omega⟩ (fun x_7 lx_7 ux_7 ex_7 => ?_) | refine q_isubw hx hb dX8_init_27 (fun x_7 lx_7 ux_7 _ => ?_)
  refine q_putFi (ci := 6) (C := RX8) (T := TX8) (N := 6) hx hb hts (fun w h => List.mem_cons_of_mem _ (mfX80 w h)) hown hK hw m_a0 o_a0 rfl 5 (by decide) (hts _ (List.mem_cons_of_mem _ (mr13 _ (List.mem_of_getElem? (i := 10) rfl)))) (fun _ h => h) tyX8 tyX8_ok nmX8 rfl hnm rfl (ty := .int) (by decide +kernel) rfl rfl dX8_init_28 (fun H locs hw => ?_)
  have oo := o_a0
  obtain ⟨f_8, ef_8⟩ : ∃ g : Nat → va_E, g = pU f_5 a0 5 (.int (iI x_7)) := ⟨_, rfl⟩
  have hX : Ex cy f_5 f_8 := by rw [ef_8]; exact Ex_pU oo rfl rfl (by decide)
  have hg : GI cy M f_8 := by rw [ef_8]; exact hg.putI oo rfl ⟨lx_7, ux_7⟩ trivial
  rw [← ef_8] at hw
  have hO : ∀ x ∈ L0, x ≠ a0 → f_8 x = f0 x := fun x9 m9 h9 => Eq.trans (by rw [ef_8]; exact pU_ne h9) (hO x9 m9 h9)
  have hE := hE.trans hX
  have o_a0 := hX.1.1 _ _ o_a0
  have t_a0_3_f_8 : fI f_8 a0 3 = fI f_5 a0 3 := by rw [ef_8]; exact fI_pU (Or.inr (by decide))
  have vf_8 : fI f_8 a0 5 = x_7 := by rw [ef_8]; exact fI_pU_self oo rfl ⟨lx_7, ux_7⟩
  exact q_ret_v hx hb hr hlocks hK hAe hw (Nat.le_of_ble_eq_true rfl) (Nat.le_of_ble_eq_true rfl) dX8_init_31 (by exact ⟨rfl, hg, hE, hO, by first | trivial | omega⟩)
set_option maxHeartbeats 4000000 in
set_option maxRecDepth 100000 in
theorem c_X3_init {Z : Zt} (zo : Zok Z) (l : Launch) (D : va_G) (cy : Cy) (L0 : List Nat) (f0 : Nat → va_E) (a0 : Nat) (x1 : Int) (lx1 : -2147483648 ≤ x1) (ux1 : x1 ≤ 2147483647) (x2 : Int) (lx2 : -2147483648 ≤ x2) (ux2 : x2 ≤ 2147483647) (x3 : Int) (lx3 : -2147483648 ≤ x3) (ux3 : x3 ≤ 2147483647) (x4 : Int) (lx4 : -2147483648 ≤ x4) (ux4 : x4 ≤ 2147483647) (x5 : Int) (lx5 : -2147483648 ≤ x5) (ux5 : x5 ≤ 2147483647) (m_a0 : a0 ∈ L0) (o_a0 : Ob f0 a0 2) (M : List Nat) (hM : ∀ x ∈ M, x ∈ L0) (hg : GI cy M f0) (h0 : -1 ≤ x2) (h1 : x2 ≤ 999) : Cv Z l yX3_init (Cond.code yX3_init cX3_init 6 none :: TB) ({ frames := 2, cells := 0, slots := 0, locals := 43 } : Room) 0 0 D (tq cy) [.ref a0, .int (iI x1), .int (iI x2), .int (iI x3), .int (iI x4), .int (iI x5)] L0 f0 (fun (L1 : List Nat) (f1 : Nat → va_E) => L0 = L1 ∧ GI cy M f1 ∧ Ex cy f0 f1 ∧ (∀ x ∈ L0, x ≠ a0 → f1 x = f0 x) ∧ (1 ≤ fI f1 a0 3 ∧ fI f1 a0 3 ≤ 12000 ∧ 0 ≤ fI f1 a0 4 ∧ fI f1 a0 4 ≤ 100000000)) := by
  refine Cv.enter (cc := cX3_init) (n := 6) rfl (plainFor_of_name (by decide)) (Nat.le_of_ble_eq_true rfl) ?_
  intro p e s m below meth c ls A hx hb hr hts hown hlocks hnm hml hK hA hAe hw hZ hl
  have hown : s.vm.findClass RX3 = some m.cls := hown
  have hl : lv_has ls 6 [(0, .ref a0), (1, .int (iI x1)), (2, .int (iI x2)), (3, .int (iI x3)), (4, .int (iI x4)), (5, .int (iI x5))] := hl
  have hN : ZN s := (zo.2.2.2.2 _ _ _ hZ).2
  have hO : ∀ x ∈ L0, x ≠ a0 → f0 x = f0 x := fun _ _ _ => rfl
  have hE : Ex cy f0 f0 := Ex.refl cy f0
  refine lv_aload_n hx hb dX3_init_0 rfl (lv_at hl 0 rfl) ?_
  refine lv_iload_n hx hb dX3_init_1 rfl (lv_at hl 1 rfl) ?_
  refine lv_iload_n hx hb dX3_init_2 rfl (lv_at hl 2 rfl) ?_
  refine lv_iload_n hx hb dX3_init_3 rfl (lv_at hl 3 rfl) ?_
  refine q_call_v hA hK hw (va_runI (As := [.int (iI x1), .int (iI x2), .int (iI x3)]) (rest := []) ⟨hx, hb, hml, hown, hts⟩ (c_X6_init_2 zo l D cy L0 f0 a0 x1 lx1 ux1 x2 lx2 ux2 x3 lx3 ux3 m_a0 o_a0 (M) hM hg _) (cwI 3 hts (gT (inC (mr2 _ (List.mem_of_getElem? (i := 16) rfl)))) rfl rfl rfl (hts _ (List.mem_cons_of_mem _ (mr2 _ (List.mem_of_getElem? (i := 15) rfl)))) (hts _ (List.mem_cons_of_mem _ (mr13 _ (List.mem_of_getElem? (i := 22) rfl)))) (hts _ (List.mem_cons_of_mem _ (mr2 _ (List.mem_of_getElem? (i := 14) rfl)))) rfl (by decide +kernel) ⟨Nat.le_of_ble_eq_true rfl, Nat.le_of_ble_eq_true rfl⟩) (Wd.preS zo hA hZ hw hK) rfl rfl hl.1 rfl (lv_room (Nat.le_of_ble_eq_true rfl)) dX3_init_4 ⟨Nat.le_of_ble_eq_true rfl, Nat.le_of_ble_eq_true rfl⟩) (fun L1 f_2 H locs ex_1 hw => ?_)
  obtain ⟨rfl, hg, hX, ex_1⟩ := ex_1
  have hE := hE.trans hX
  have o_a0 := hX.1.1 _ _ o_a0
  have hO : ∀ x ∈ L0, x ≠ a0 → f_2 x = f0 x := fun x9 m9 h9 => (ex_1.1 x9 m9 h9).trans (hO x9 m9 h9)
  have ex_1 := ex_1.2
  refine lv_aload_n hx hb dX3_init_7 rfl (lv_at hl 0 rfl) ?_
  refine lv_iload_n hx hb dX3_init_8 rfl (lv_at hl 1 rfl) ?_
  refine q_bipush hx hb dX3_init_9 rfl ?_
  have J22 : ∀ (w0_22 : Int) (lw0_22 : -2147483648 ≤ w0_22) (uw0_22 : w0_22 ≤ 2147483647) (i1 : w0_22 ≤ 11988) (i2 : -12 ≤ w0_22) (H : Heap) (locs : List Loc) (ls : Array Slot) (hw : Wd D A s.heap L0 f_2 H locs) (hl : lv_has ls 6 [(0, .ref a0), (1, .int (iI x1)), (3, .int (iI x3)), (4, .int (iI x4)), (5, .int (iI x5))]), W p l e ({ frames := 2, cells := 0, slots := 0, locals := 43 } : Room) s m ([.ref a0, .int (iI x1), .int (iI x2), .int (iI x3), .int (iI x4), .int (iI x5)] : List Value).toArray below meth c H locs (0 + 0) (0 + 0) (MQ below (Qv D (tq cy) L0 f0 s.heap.size (fun (L1 : List Nat) (f1 : Nat → va_E) => L0 = L1 ∧ GI cy M f1 ∧ Ex cy f0 f1 ∧ (∀ x ∈ L0, x ≠ a0 → f1 x = f0 x) ∧ (1 ≤ fI f1 a0 3 ∧ fI f1 a0 3 ≤ 12000 ∧ 0 ≤ fI f1 a0 4 ∧ fI f1 a0 4 ≤ 100000000))) ([.ref a0, .int (iI x1), .int (iI x2), .int (iI x3), .int (iI x4), .int (iI x5)] : List Value).toArray s 0 0 A) (F0 m 22 ls [.int (iI w0_22), .ref a0]) := by
    intro w0_22 lw0_22 uw0_22 i1 i2 H locs ls hw hl
    refine q_iconst hx hb dX3_init_22 ?_
    refine q_max hx hb (hml.trans hl.1.symm) hown (hts _ (List.mem_cons_of_mem _ (mr13 _ (List.mem_of_getElem? (i := 17) rfl)))) (hts _ (List.mem_cons_of_mem _ (mr13 _ (List.mem_of_getElem? (i := 0) rfl)))) (hts _ (List.mem_cons_of_mem _ (mr6 _ (List.mem_of_getElem? (i := 14) rfl)))) (hts _ (List.mem_cons_of_mem _ (mr13 _ (List.mem_of_getElem? (i := 1) rfl)))) (Nat.le_of_ble_eq_true rfl) (Nat.le_of_ble_eq_true rfl) (Nat.le_of_ble_eq_true rfl) (Nat.le_of_ble_eq_true rfl) ⟨lw0_22, uw0_22⟩ ⟨by decide, by decide⟩ dX3_init_23 (fun x_3 lx_3 ux_3 ex_3 => ?_)
    refine q_putFi (ci := 2) (C := RX3) (T := TX3) (N := 7) hx hb hts (fun w h => List.mem_cons_of_mem _ (mfX30 w h)) hown hK hw m_a0 o_a0 rfl 3 (by decide) (hts _ (List.mem_cons_of_mem _ (mr13 _ (List.mem_of_getElem? (i := 18) rfl)))) (fun _ h => h) tyX3 tyX3_ok nmX3 rfl hnm rfl (ty := .int) (by decide +kernel) rfl rfl dX3_init_26 (fun H locs hw => ?_)
    have oo := o_a0
    obtain ⟨f_4, ef_4⟩ : ∃ g : Nat → va_E, g = pU f_2 a0 3 (.int (iI x_3)) := ⟨_, rfl⟩
    have hX : Ex cy f_2 f_4 := by rw [ef_4]; exact Ex_pU oo rfl rfl (by decide)
    have hg : GI cy M f_4 := by rw [ef_4]; exact hg.putI oo rfl ⟨lx_3, ux_3⟩ (by show 1 ≤ x_3 ∧ x_3 ≤ 12000; omega)
    rw [← ef_4] at hw
    have hO : ∀ x ∈ L0, x ≠ a0 → f_4 x = f0 x := fun x9 m9 h9 => Eq.trans (by rw [ef_4]; exact pU_ne h9) (hO x9 m9 h9)
    have hE := hE.trans hX
    have o_a0 := hX.1.1 _ _ o_a0
    have vf_4 : fI f_4 a0 3 = x_3 := by rw [ef_4]; exact fI_pU_self oo rfl ⟨lx_3, ux_3⟩
    refine lv_aload_n hx hb dX3_init_29 rfl (lv_at hl 0 rfl) ?_
    refine lv_iload_n hx hb dX3_init_30 rfl (lv_at hl 2 rfl) ?_
    refine q_call_i hA hK hw (va_runSN (As := [.int (iI x3)]) (rest := [.ref a0]) ⟨hx, hb, hml, hown, hts⟩ (c_X1_monthOf zo l D cy L0 f_4 x3 lx3 ux3 _) ⟨va_cnB 1 hts (gT (inC (mr14 _ (List.mem_of_getElem? (i := 0) rfl)))) rfl rfl rfl (hN _ (List.mem_of_getElem? (i := 5) rfl)) (hts _ (List.mem_cons_of_mem _ (mr11 _ (List.mem_of_getElem? (i := 20) rfl)))) (by decide +kernel) ⟨Nat.le_of_ble_eq_true rfl, Nat.le_of_ble_eq_true rfl⟩, (hts _ (List.mem_cons_of_mem _ (mr13 _ (List.mem_of_getElem? (i := 23) rfl)))), trivial⟩ (Wd.preS zo hA hZ hw hK) rfl rfl hl.1 rfl (lv_room (Nat.le_of_ble_eq_true rfl)) dX3_init_31 ⟨Nat.le_of_ble_eq_true rfl, Nat.le_of_ble_eq_true rfl⟩) (fun x_5 L1 f1 H locs lx_5 ux_5 ex_5 hw => ?_)
    obtain ⟨rfl, rfl, ex_5⟩ := ex_5
    refine q_putFi (ci := 2) (C := RX3) (T := TX3) (N := 7) hx hb hts (fun w h => List.mem_cons_of_mem _ (mfX30 w h)) hown hK hw m_a0 o_a0 rfl 4 (by decide) (hts _ (List.mem_cons_of_mem _ (mr13 _ (List.mem_of_getElem? (i := 19) rfl)))) (fun _ h => h) tyX3 tyX3_ok nmX3 rfl hnm rfl (ty := .int) (by decide +kernel) rfl rfl dX3_init_34 (fun H locs hw => ?_)
    have oo := o_a0
    obtain ⟨f_6, ef_6⟩ : ∃ g : Nat → va_E, g = pU f_4 a0 4 (.int (iI x_5)) := ⟨_, rfl⟩
    have hX : Ex cy f_4 f_6 := by rw [ef_6]; exact Ex_pU oo rfl rfl (by decide)
    have hg : GI cy M f_6 := by rw [ef_6]; exact hg.putI oo rfl ⟨lx_5, ux_5⟩ (by show 0 ≤ x_5 ∧ x_5 ≤ 100000000; omega)
    rw [← ef_6] at hw
    have hO : ∀ x ∈ L0, x ≠ a0 → f_6 x = f0 x := fun x9 m9 h9 => Eq.trans (by rw [ef_6]; exact pU_ne h9) (hO x9 m9 h9)
    have hE := hE.trans hX
    have o_a0 := hX.1.1 _ _ o_a0
    have t_a0_3_f_6 : fI f_6 a0 3 = fI f_4 a0 3 := by rw [ef_6]; exact fI_pU (Or.inr (by decide))
    have vf_6 : fI f_6 a0 4 = x_5 := by rw [ef_6]; exact fI_pU_self oo rfl ⟨lx_5, ux_5⟩
    refine lv_aload_n hx hb dX3_init_37 rfl (lv_at hl 0 rfl) ?_
    refine lv_iload_n hx hb dX3_init_38 rfl (lv_at hl 1 rfl) ?_
    refine q_bipush hx hb dX3_init_39 rfl ?_
    refine q_icmp_ne (tgt := 58) hx hb dX3_init_41 (by decide) ⟨lx1, ux1⟩ ⟨by decide, by decide⟩ (fun c41 => ?_) (fun c41 => ?_)
    · refine lv_iload hx hb dX3_init_58 (lv_at hl 3 rfl) ?_
      refine q_putFi (ci := 2) (C := RX3) (T := TX3) (N := 7) hx hb hts (fun w h => List.mem_cons_of_mem _ (mfX30 w h)) hown hK hw m_a0 o_a0 rfl 5 (by decide) (hts _ (List.mem_cons_of_mem _ (mr13 _ (List.mem_of_getElem? (i := 20) rfl)))) (fun _ h => h) tyX3 tyX3_ok nmX3 rfl hnm rfl (ty := .int) (by decide +kernel) rfl rfl dX3_init_60 (fun H locs hw => ?_)
      have oo := o_a0
      obtain ⟨f_7, ef_7⟩ : ∃ g : Nat → va_E, g = pU f_6 a0 5 (.int (iI x4)) := ⟨_, rfl⟩
      have hX : Ex cy f_6 f_7 := by rw [ef_7]; exact Ex_pU oo rfl rfl (by decide)
      have hg : GI cy M f_7 := by rw [ef_7]; exact hg.putI oo rfl ⟨lx4, ux4⟩ trivial
      rw [← ef_7] at hw
      have hO : ∀ x ∈ L0, x ≠ a0 → f_7 x = f0 x := fun x9 m9 h9 => Eq.trans (by rw [ef_7]; exact pU_ne h9) (hO x9 m9 h9)
      have hE := hE.trans hX
      have o_a0 := hX.1.1 _ _ o_a0
      have t_a0_3_f_7 : fI f_7 a0 3 = fI f_6 a0 3 := by rw [ef_7]; exact fI_pU (Or.inr (by decide))
      have t_a0_4_f_7 : fI f_7 a0 4 = fI f_6 a0 4 := by rw [ef_7]; exact fI_pU (Or.inr (by decide))
      have vf_7 : fI f_7 a0 5 = x4 := by rw [ef_7]; exact fI_pU_self oo rfl ⟨lx4, ux4⟩
      refine lv_aload_n hx hb dX3_init_63 rfl (lv_at hl 0 rfl) ?_
      refine lv_iload hx hb dX3_init_64 (lv_at hl 4 rfl) ?_
      refine q_putFi (ci := 2) (C := RX3) (T := TX3) (N := 7) hx hb hts (fun w h => List.mem_cons_of_mem _ (mfX30 w h)) hown hK hw m_a0 o_a0 rfl 6 (by decide) (hts _ (List.mem_cons_of_mem _ (mr13 _ (List.mem_of_getElem? (i := 21) rfl)))) (fun _ h => h) tyX3 tyX3_ok nmX3 rfl hnm rfl (ty := .int) (by decide +kernel) rfl rfl dX3_init_66 (fun H locs hw => ?_)
      have oo := o_a0
      obtain ⟨f_8, ef_8⟩ : ∃ g : Nat → va_E, g = pU f_7 a0 6 (.int (iI x5)) := ⟨_, rfl⟩
      have hX : Ex cy f_7 f_8 := by rw [ef_8]; exact Ex_pU oo rfl rfl (by decide)
      have hg : GI cy M f_8 := by rw [ef_8]; exact hg.putI oo rfl ⟨lx5, ux5⟩ trivial
      rw [← ef_8] at hw
      have hO : ∀ x ∈ L0, x ≠ a0 → f_8 x = f0 x := fun x9 m9 h9 => Eq.trans (by rw [ef_8]; exact pU_ne h9) (hO x9 m9 h9)
      have hE := hE.trans hX
      have o_a0 := hX.1.1 _ _ o_a0
      have t_a0_3_f_8 : fI f_8 a0 3 = fI f_7 a0 3 := by rw [ef_8]; exact fI_pU (Or.inr (by decide))
      have t_a0_4_f_8 : fI f_8 a0 4 = fI f_7 a0 4 := by rw [ef_8]; exact fI_pU (Or.inr (by decide))
      have vf_8 : fI f_8 a0 6 = x5 := by rw [ef_8]; exact fI_pU_self oo rfl ⟨lx5, ux5⟩
      exact q_ret_v hx hb hr hlocks hK hAe hw (Nat.le_of_ble_eq_true rfl) (Nat.le_of_ble_eq_true rfl) dX3_init_69 (by exact ⟨rfl, hg, hE, hO, by first | trivial | omega⟩)
    · refine lv_iload_n hx hb dX3_init_44 rfl (lv_at hl 2 rfl) ?_
      refine lv_aload_n hx hb dX3_init_45 rfl (lv_at hl 0 rfl) ?_
      refine q_geti (ci := 2) (C := RX3) (T := TX3) (N := 7) hx hb hts (fun w h => List.mem_cons_of_mem _ (mfX30 w h)) hown hK hw m_a0 o_a0 rfl 4 (by decide) (hts _ (List.mem_cons_of_mem _ (mr13 _ (List.mem_of_getElem? (i := 19) rfl)))) (fun _ h => h) rfl dX3_init_46 (fun x_9 lx_9 ux_9 ex_9 => ?_)
      refine q_call_i hA hK hw (va_runSN (As := [.int (iI x_9)]) (rest := [.int (iI x3), .ref a0]) ⟨hx, hb, hml, hown, hts⟩ (c_X1_monthStart zo l D cy L0 f_6 x_9 lx_9 ux_9 _) ⟨va_cnB 1 hts (gT (inC (mr12 _ (List.mem_of_getElem? (i := 3) rfl)))) rfl rfl rfl (hN _ (List.mem_of_getElem? (i := 6) rfl)) (hts _ (List.mem_cons_of_mem _ (mr11 _ (List.mem_of_getElem? (i := 20) rfl)))) (by decide +kernel) ⟨Nat.le_of_ble_eq_true rfl, Nat.le_of_ble_eq_true rfl⟩, (hts _ (List.mem_cons_of_mem _ (mr12 _ (List.mem_of_getElem? (i := 2) rfl)))), trivial⟩ (Wd.preS zo hA hZ hw hK) rfl rfl hl.1 rfl (lv_room (Nat.le_of_ble_eq_true rfl)) dX3_init_49 ⟨Nat.le_of_ble_eq_true rfl, Nat.le_of_ble_eq_true rfl⟩) (fun x_10 L1 f1 H locs lx_10 ux_10 ex_10 hw => ?_)
      obtain ⟨rfl, rfl, ex_10⟩ := ex_10
      first | refine q_isub hx hb dX3_init_52 ⟨by omega, by omega⟩ (fun x_11 lx_11 ux_11 ex_11 => ?_) | refine q_isubw hx hb dX3_init_52 (fun x_11 lx_11 ux_11 _ => ?_)
      refine q_iconst hx hb dX3_init_53 ?_
      first | refine q_iadd hx hb dX3_init_54 ⟨by omega, by omega⟩ (fun x_12 lx_12 ux_12 ex_12 => ?_) | refine q_iaddw hx hb dX3_init_54 (fun x_12 lx_12 ux_12 _ => ?_)
      refine lv_goto (tgt := 60) hx hb dX3_init_55 (by decide) ?_
      refine q_putFi (ci := 2) (C := RX3) (T := TX3) (N := 7) hx hb hts (fun w h => List.mem_cons_of_mem _ (mfX30 w h)) hown hK hw m_a0 o_a0 rfl 5 (by decide) (hts _ (List.mem_cons_of_mem _ (mr13 _ (List.mem_of_getElem? (i := 20) rfl)))) (fun _ h => h) tyX3 tyX3_ok nmX3 rfl hnm rfl (ty := .int) (by decide +kernel) rfl rfl dX3_init_60 (fun H locs hw => ?_)
      have oo := o_a0
      obtain ⟨f_13, ef_13⟩ : ∃ g : Nat → va_E, g = pU f_6 a0 5 (.int (iI x_12)) := ⟨_, rfl⟩
      have hX : Ex cy f_6 f_13 := by rw [ef_13]; exact Ex_pU oo rfl rfl (by decide)
      have hg : GI cy M f_13 := by rw [ef_13]; exact hg.putI oo rfl ⟨lx_12, ux_12⟩ trivial
      rw [← ef_13] at hw
      have hO : ∀ x ∈ L0, x ≠ a0 → f_13 x = f0 x := fun x9 m9 h9 => Eq.trans (by rw [ef_13]; exact pU_ne h9) (hO x9 m9 h9)
      have hE := hE.trans hX
      have o_a0 := hX.1.1 _ _ o_a0
      have t_a0_3_f_13 : fI f_13 a0 3 = fI f_6 a0 3 := by rw [ef_13]; exact fI_pU (Or.inr (by decide))
      have t_a0_4_f_13 : fI f_13 a0 4 = fI f_6 a0 4 := by rw [ef_13]; exact fI_pU (Or.inr (by decide))
      have vf_13 : fI f_13 a0 5 = x_12 := by rw [ef_13]; exact fI_pU_self oo rfl ⟨lx_12, ux_12⟩
      refine lv_aload_n hx hb dX3_init_63 rfl (lv_at hl 0 rfl) ?_
      refine lv_iload hx hb dX3_init_64 (lv_at hl 4 rfl) ?_
      refine q_putFi (ci := 2) (C := RX3) (T := TX3) (N := 7) hx hb hts (fun w h => List.mem_cons_of_mem _ (mfX30 w h)) hown hK hw m_a0 o_a0 rfl 6 (by decide) (hts _ (List.mem_cons_of_mem _ (mr13 _ (List.mem_of_getElem? (i := 21) rfl)))) (fun _ h => h) tyX3 tyX3_ok nmX3 rfl hnm rfl (ty := .int) (by decide +kernel) rfl rfl dX3_init_66 (fun H locs hw => ?_)
      have oo := o_a0
      obtain ⟨f_14, ef_14⟩ : ∃ g : Nat → va_E, g = pU f_13 a0 6 (.int (iI x5)) := ⟨_, rfl⟩
      have hX : Ex cy f_13 f_14 := by rw [ef_14]; exact Ex_pU oo rfl rfl (by decide)
      have hg : GI cy M f_14 := by rw [ef_14]; exact hg.putI oo rfl ⟨lx5, ux5⟩ trivial
      rw [← ef_14] at hw
      have hO : ∀ x ∈ L0, x ≠ a0 → f_14 x = f0 x := fun x9 m9 h9 => Eq.trans (by rw [ef_14]; exact pU_ne h9) (hO x9 m9 h9)
      have hE := hE.trans hX
      have o_a0 := hX.1.1 _ _ o_a0
      have t_a0_3_f_14 : fI f_14 a0 3 = fI f_13 a0 3 := by rw [ef_14]; exact fI_pU (Or.inr (by decide))
      have t_a0_4_f_14 : fI f_14 a0 4 = fI f_13 a0 4 := by rw [ef_14]; exact fI_pU (Or.inr (by decide))
      have vf_14 : fI f_14 a0 6 = x5 := by rw [ef_14]; exact fI_pU_self oo rfl ⟨lx5, ux5⟩
      exact q_ret_v hx hb hr hlocks hK hAe hw (Nat.le_of_ble_eq_true rfl) (Nat.le_of_ble_eq_true rfl) dX3_init_69 (by exact ⟨rfl, hg, hE, hO, by first | trivial | omega⟩)
  refine q_icmp_ne (tgt := 21) hx hb dX3_init_11 (by decide) ⟨lx1, ux1⟩ ⟨by decide, by decide⟩ (fun c11 => ?_) (fun c11 => ?_)
  · refine lv_iload_n hx hb dX3_init_21 rfl (lv_at hl 2 rfl) ?_
    exact J22 x2 lx2 ux2 (by omega) (by omega) _ _ _ hw (lv_sub hl [0, 1, 3, 4, 5] rfl)
  · refine q_bipush hx hb dX3_init_14 rfl ?_
    refine lv_iload_n hx hb dX3_init_16 rfl (lv_at hl 2 rfl) ?_
    first | refine q_imul hx hb dX3_init_17 ⟨by omega, by omega⟩ (fun x_15 lx_15 ux_15 ex_15 => ?_) | refine q_imulw hx hb dX3_init_17 (fun x_15 lx_15 ux_15 _ => ?_)
    refine lv_goto (tgt := 22) hx hb dX3_init_18 (by decide) ?_
    exact J22 x_15 lx_15 ux_15 (by omega) (by omega) _ _ _ hw (lv_sub hl [0, 1, 3, 4, 5] rfl)
