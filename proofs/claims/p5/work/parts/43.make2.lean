set_option maxHeartbeats 4000000 in
set_option maxRecDepth 100000 in
theorem c_X5_init {Z : Zt} (zo : Zok Z) (l : Launch) (D : va_G) (cy : Cy) (L0 : List Nat) (f0 : Nat → va_E) (a0 : Nat) (a1 : Nat) (x2 : Int) (lx2 : -2147483648 ≤ x2) (ux2 : x2 ≤ 2147483647) (m_a0 : a0 ∈ L0) (o_a0 : Ob f0 a0 4) (m_a1 : a1 ∈ L0) (o_a1 : ArI f0 a1 cy.1 168) (M : List Nat) (hM : ∀ x ∈ M, x ∈ L0) (hg : GI cy M f0) (hma1 : a1 ∈ M) (h0 : 0 ≤ x2) (h1 : x2 ≤ 168) : Cv Z l yX5_init (Cond.code yX5_init cX5_init 3 none :: TB) ({ frames := 1, cells := 0, slots := 0, locals := 21 } : Room) 0 0 D (tq cy) [.ref a0, .ref a1, .int (iI x2)] L0 f0 (fun (L1 : List Nat) (f1 : Nat → va_E) => L0 = L1 ∧ GI cy M f1 ∧ Ex cy f0 f1 ∧ (∀ x ∈ L0, x ≠ a0 → f1 x = f0 x) ∧ (((0 ≤ fI f1 a0 1 ∧ fI f1 a0 1 ≤ 168) ∧ (0 ≤ fI f1 a0 3 ∧ fI f1 a0 3 ≤ 168) ∧ (0 ≤ fI f1 a0 4 ∧ fI f1 a0 4 ≤ 168) ∧ (-1 ≤ fI f1 a0 7 ∧ fI f1 a0 7 ≤ 999)) ∧ fR f1 a0 0 = some a1)) := by
  refine Cv.enter (cc := cX5_init) (n := 3) rfl (plainFor_of_name (by decide)) (Nat.le_of_ble_eq_true rfl) ?_
  intro p e s m below meth c ls A hx hb hr hts hown hlocks hnm hml hK hA hAe hw hZ hl
  have hown : s.vm.findClass RX5 = some m.cls := hown
  have hl : lv_has ls 3 [(0, .ref a0), (1, .ref a1), (2, .int (iI x2))] := hl
  have hN : ZN s := (zo.2.2.2.2 _ _ _ hZ).2
  have hO : ∀ x ∈ L0, x ≠ a0 → f0 x = f0 x := fun _ _ _ => rfl
  have hE : Ex cy f0 f0 := Ex.refl cy f0
  refine lv_aload_n hx hb dX5_init_0 rfl (lv_at hl 0 rfl) ?_
  refine W.objInit hx hb hown (hts _ (List.mem_cons_of_mem _ (mr6 _ (List.mem_of_getElem? (i := 2) rfl)))) (hts _ (List.mem_cons_of_mem _ (mr1 _ (List.mem_of_getElem? (i := 12) rfl)))) (hts _ (List.mem_cons_of_mem _ (mr1 _ (List.mem_of_getElem? (i := 13) rfl)))) rfl (by rw [hml]; exact hl.1) rfl dX5_init_1 (Nat.le_of_ble_eq_true rfl) (Nat.le_of_ble_eq_true rfl) ?_
  refine W.eq (g2 := F0 m 4 ls []) rfl ?_
  refine lv_aload_n hx hb dX5_init_4 rfl (lv_at hl 0 rfl) ?_
  refine q_iconst hx hb dX5_init_5 ?_
  refine q_puti (ci := 4) (C := RX5) (T := TX5) (N := 10) hx hb hts (fun w h => List.mem_cons_of_mem _ (mfX50 w h)) hown hK hw m_a0 o_a0 rfl 2 (by decide) (hts _ (List.mem_cons_of_mem _ (mr6 _ (List.mem_of_getElem? (i := 3) rfl)))) (fun _ h => h) tyX5 tyX5_ok nmX5 rfl (ty := .int) (by decide +kernel) rfl rfl dX5_init_6 (fun H locs hw => ?_)
  have oo := o_a0
  obtain ⟨f_1, ef_1⟩ : ∃ g : Nat → va_E, g = pU f0 a0 2 (.int (iI 0)) := ⟨_, rfl⟩
  have hX : Ex cy f0 f_1 := by rw [ef_1]; exact Ex_pU oo rfl rfl (by decide)
  have hg : GI cy M f_1 := by rw [ef_1]; exact hg.putI oo rfl ⟨by decide, by decide⟩ trivial
  rw [← ef_1] at hw
  have hO : ∀ x ∈ L0, x ≠ a0 → f_1 x = f0 x := fun x9 m9 h9 => Eq.trans (by rw [ef_1]; exact pU_ne h9) (hO x9 m9 h9)
  have hE := hE.trans hX
  have o_a0 := hX.1.1 _ _ o_a0
  have o_a1 := hX.1.2.1 _ _ _ o_a1
  have t_a0_1_f_1 : fI f_1 a0 1 = fI f0 a0 1 := by rw [ef_1]; exact fI_pU (Or.inr (by decide))
  have t_a0_3_f_1 : fI f_1 a0 3 = fI f0 a0 3 := by rw [ef_1]; exact fI_pU (Or.inr (by decide))
  have t_a0_4_f_1 : fI f_1 a0 4 = fI f0 a0 4 := by rw [ef_1]; exact fI_pU (Or.inr (by decide))
  have t_a0_7_f_1 : fI f_1 a0 7 = fI f0 a0 7 := by rw [ef_1]; exact fI_pU (Or.inr (by decide))
  have vf_1 : fI f_1 a0 2 = 0 := by rw [ef_1]; exact fI_pU_self oo rfl ⟨by decide, by decide⟩
  refine lv_aload_n hx hb dX5_init_9 rfl (lv_at hl 0 rfl) ?_
  refine q_iconst hx hb dX5_init_10 ?_
  refine q_puti (ci := 4) (C := RX5) (T := TX5) (N := 10) hx hb hts (fun w h => List.mem_cons_of_mem _ (mfX50 w h)) hown hK hw m_a0 o_a0 rfl 3 (by decide) (hts _ (List.mem_cons_of_mem _ (mr6 _ (List.mem_of_getElem? (i := 4) rfl)))) (fun _ h => h) tyX5 tyX5_ok nmX5 rfl (ty := .int) (by decide +kernel) rfl rfl dX5_init_11 (fun H locs hw => ?_)
  have oo := o_a0
  obtain ⟨f_2, ef_2⟩ : ∃ g : Nat → va_E, g = pU f_1 a0 3 (.int (iI 0)) := ⟨_, rfl⟩
  have hX : Ex cy f_1 f_2 := by rw [ef_2]; exact Ex_pU oo rfl rfl (by decide)
  have hg : GI cy M f_2 := by rw [ef_2]; exact hg.putI oo rfl ⟨by decide, by decide⟩ (by show 0 ≤ 0 ∧ 0 ≤ 168; omega)
  rw [← ef_2] at hw
  have hO : ∀ x ∈ L0, x ≠ a0 → f_2 x = f0 x := fun x9 m9 h9 => Eq.trans (by rw [ef_2]; exact pU_ne h9) (hO x9 m9 h9)
  have hE := hE.trans hX
  have o_a0 := hX.1.1 _ _ o_a0
  have o_a1 := hX.1.2.1 _ _ _ o_a1
  have t_a0_1_f_2 : fI f_2 a0 1 = fI f_1 a0 1 := by rw [ef_2]; exact fI_pU (Or.inr (by decide))
  have t_a0_4_f_2 : fI f_2 a0 4 = fI f_1 a0 4 := by rw [ef_2]; exact fI_pU (Or.inr (by decide))
  have t_a0_7_f_2 : fI f_2 a0 7 = fI f_1 a0 7 := by rw [ef_2]; exact fI_pU (Or.inr (by decide))
  have vf_2 : fI f_2 a0 3 = 0 := by rw [ef_2]; exact fI_pU_self oo rfl ⟨by decide, by decide⟩
  refine lv_aload_n hx hb dX5_init_14 rfl (lv_at hl 0 rfl) ?_
  refine q_iconst hx hb dX5_init_15 ?_
  refine q_puti (ci := 4) (C := RX5) (T := TX5) (N := 10) hx hb hts (fun w h => List.mem_cons_of_mem _ (mfX50 w h)) hown hK hw m_a0 o_a0 rfl 4 (by decide) (hts _ (List.mem_cons_of_mem _ (mr6 _ (List.mem_of_getElem? (i := 5) rfl)))) (fun _ h => h) tyX5 tyX5_ok nmX5 rfl (ty := .int) (by decide +kernel) rfl rfl dX5_init_16 (fun H locs hw => ?_)
  have oo := o_a0
  obtain ⟨f_3, ef_3⟩ : ∃ g : Nat → va_E, g = pU f_2 a0 4 (.int (iI 0)) := ⟨_, rfl⟩
  have hX : Ex cy f_2 f_3 := by rw [ef_3]; exact Ex_pU oo rfl rfl (by decide)
  have hg : GI cy M f_3 := by rw [ef_3]; exact hg.putI oo rfl ⟨by decide, by decide⟩ (by show 0 ≤ 0 ∧ 0 ≤ 168; omega)
  rw [← ef_3] at hw
  have hO : ∀ x ∈ L0, x ≠ a0 → f_3 x = f0 x := fun x9 m9 h9 => Eq.trans (by rw [ef_3]; exact pU_ne h9) (hO x9 m9 h9)
  have hE := hE.trans hX
  have o_a0 := hX.1.1 _ _ o_a0
  have o_a1 := hX.1.2.1 _ _ _ o_a1
  have t_a0_1_f_3 : fI f_3 a0 1 = fI f_2 a0 1 := by rw [ef_3]; exact fI_pU (Or.inr (by decide))
  have t_a0_3_f_3 : fI f_3 a0 3 = fI f_2 a0 3 := by rw [ef_3]; exact fI_pU (Or.inr (by decide))
  have t_a0_7_f_3 : fI f_3 a0 7 = fI f_2 a0 7 := by rw [ef_3]; exact fI_pU (Or.inr (by decide))
  have vf_3 : fI f_3 a0 4 = 0 := by rw [ef_3]; exact fI_pU_self oo rfl ⟨by decide, by decide⟩
  refine lv_aload_n hx hb dX5_init_19 rfl (lv_at hl 0 rfl) ?_
  refine q_iconst hx hb dX5_init_20 ?_
  refine q_puti (ci := 4) (C := RX5) (T := TX5) (N := 10) hx hb hts (fun w h => List.mem_cons_of_mem _ (mfX50 w h)) hown hK hw m_a0 o_a0 rfl 5 (by decide) (hts _ (List.mem_cons_of_mem _ (mr6 _ (List.mem_of_getElem? (i := 6) rfl)))) (fun _ h => h) tyX5 tyX5_ok nmX5 rfl (ty := .int) (by decide +kernel) rfl rfl dX5_init_21 (fun H locs hw => ?_)
  have oo := o_a0
  obtain ⟨f_4, ef_4⟩ : ∃ g : Nat → va_E, g = pU f_3 a0 5 (.int (iI 0)) := ⟨_, rfl⟩
  have hX : Ex cy f_3 f_4 := by rw [ef_4]; exact Ex_pU oo rfl rfl (by decide)
  have hg : GI cy M f_4 := by rw [ef_4]; exact hg.putI oo rfl ⟨by decide, by decide⟩ trivial
  rw [← ef_4] at hw
  have hO : ∀ x ∈ L0, x ≠ a0 → f_4 x = f0 x := fun x9 m9 h9 => Eq.trans (by rw [ef_4]; exact pU_ne h9) (hO x9 m9 h9)
  have hE := hE.trans hX
  have o_a0 := hX.1.1 _ _ o_a0
  have o_a1 := hX.1.2.1 _ _ _ o_a1
  have t_a0_1_f_4 : fI f_4 a0 1 = fI f_3 a0 1 := by rw [ef_4]; exact fI_pU (Or.inr (by decide))
  have t_a0_3_f_4 : fI f_4 a0 3 = fI f_3 a0 3 := by rw [ef_4]; exact fI_pU (Or.inr (by decide))
  have t_a0_4_f_4 : fI f_4 a0 4 = fI f_3 a0 4 := by rw [ef_4]; exact fI_pU (Or.inr (by decide))
  have t_a0_7_f_4 : fI f_4 a0 7 = fI f_3 a0 7 := by rw [ef_4]; exact fI_pU (Or.inr (by decide))
  have vf_4 : fI f_4 a0 5 = 0 := by rw [ef_4]; exact fI_pU_self oo rfl ⟨by decide, by decide⟩
  refine lv_aload_n hx hb dX5_init_24 rfl (lv_at hl 0 rfl) ?_
  refine q_iconst hx hb dX5_init_25 ?_
  refine q_puti (ci := 4) (C := RX5) (T := TX5) (N := 10) hx hb hts (fun w h => List.mem_cons_of_mem _ (mfX50 w h)) hown hK hw m_a0 o_a0 rfl 6 (by decide) (hts _ (List.mem_cons_of_mem _ (mr6 _ (List.mem_of_getElem? (i := 7) rfl)))) (fun _ h => h) tyX5 tyX5_ok nmX5 rfl (ty := .int) (by decide +kernel) rfl rfl dX5_init_26 (fun H locs hw => ?_)
  have oo := o_a0
  obtain ⟨f_5, ef_5⟩ : ∃ g : Nat → va_E, g = pU f_4 a0 6 (.int (iI 0)) := ⟨_, rfl⟩
  have hX : Ex cy f_4 f_5 := by rw [ef_5]; exact Ex_pU oo rfl rfl (by decide)
  have hg : GI cy M f_5 := by rw [ef_5]; exact hg.putI oo rfl ⟨by decide, by decide⟩ trivial
  rw [← ef_5] at hw
  have hO : ∀ x ∈ L0, x ≠ a0 → f_5 x = f0 x := fun x9 m9 h9 => Eq.trans (by rw [ef_5]; exact pU_ne h9) (hO x9 m9 h9)
  have hE := hE.trans hX
  have o_a0 := hX.1.1 _ _ o_a0
  have o_a1 := hX.1.2.1 _ _ _ o_a1
  have t_a0_1_f_5 : fI f_5 a0 1 = fI f_4 a0 1 := by rw [ef_5]; exact fI_pU (Or.inr (by decide))
  have t_a0_3_f_5 : fI f_5 a0 3 = fI f_4 a0 3 := by rw [ef_5]; exact fI_pU (Or.inr (by decide))
  have t_a0_4_f_5 : fI f_5 a0 4 = fI f_4 a0 4 := by rw [ef_5]; exact fI_pU (Or.inr (by decide))
  have t_a0_7_f_5 : fI f_5 a0 7 = fI f_4 a0 7 := by rw [ef_5]; exact fI_pU (Or.inr (by decide))
  have vf_5 : fI f_5 a0 6 = 0 := by rw [ef_5]; exact fI_pU_self oo rfl ⟨by decide, by decide⟩
  refine lv_aload_n hx hb dX5_init_29 rfl (lv_at hl 0 rfl) ?_
  refine q_iconst hx hb dX5_init_30 ?_
  refine q_puti (ci := 4) (C := RX5) (T := TX5) (N := 10) hx hb hts (fun w h => List.mem_cons_of_mem _ (mfX50 w h)) hown hK hw m_a0 o_a0 rfl 7 (by decide) (hts _ (List.mem_cons_of_mem _ (mr6 _ (List.mem_of_getElem? (i := 8) rfl)))) (fun _ h => h) tyX5 tyX5_ok nmX5 rfl (ty := .int) (by decide +kernel) rfl rfl dX5_init_31 (fun H locs hw => ?_)
  have oo := o_a0
  obtain ⟨f_6, ef_6⟩ : ∃ g : Nat → va_E, g = pU f_5 a0 7 (.int (iI 0)) := ⟨_, rfl⟩
  have hX : Ex cy f_5 f_6 := by rw [ef_6]; exact Ex_pU oo rfl rfl (by decide)
  have hg : GI cy M f_6 := by rw [ef_6]; exact hg.putI oo rfl ⟨by decide, by decide⟩ (by show -1 ≤ 0 ∧ 0 ≤ 999; omega)
  rw [← ef_6] at hw
  have hO : ∀ x ∈ L0, x ≠ a0 → f_6 x = f0 x := fun x9 m9 h9 => Eq.trans (by rw [ef_6]; exact pU_ne h9) (hO x9 m9 h9)
  have hE := hE.trans hX
  have o_a0 := hX.1.1 _ _ o_a0
  have o_a1 := hX.1.2.1 _ _ _ o_a1
  have t_a0_1_f_6 : fI f_6 a0 1 = fI f_5 a0 1 := by rw [ef_6]; exact fI_pU (Or.inr (by decide))
  have t_a0_3_f_6 : fI f_6 a0 3 = fI f_5 a0 3 := by rw [ef_6]; exact fI_pU (Or.inr (by decide))
  have t_a0_4_f_6 : fI f_6 a0 4 = fI f_5 a0 4 := by rw [ef_6]; exact fI_pU (Or.inr (by decide))
  have vf_6 : fI f_6 a0 7 = 0 := by rw [ef_6]; exact fI_pU_self oo rfl ⟨by decide, by decide⟩
  refine lv_aload_n hx hb dX5_init_34 rfl (lv_at hl 0 rfl) ?_
  refine q_iconst hx hb dX5_init_35 ?_
  refine q_puti (ci := 4) (C := RX5) (T := TX5) (N := 10) hx hb hts (fun w h => List.mem_cons_of_mem _ (mfX50 w h)) hown hK hw m_a0 o_a0 rfl 8 (by decide) (hts _ (List.mem_cons_of_mem _ (mr6 _ (List.mem_of_getElem? (i := 9) rfl)))) (fun _ h => h) tyX5 tyX5_ok nmX5 rfl (ty := .int) (by decide +kernel) rfl rfl dX5_init_36 (fun H locs hw => ?_)
  have oo := o_a0
  obtain ⟨f_7, ef_7⟩ : ∃ g : Nat → va_E, g = pU f_6 a0 8 (.int (iI 0)) := ⟨_, rfl⟩
  have hX : Ex cy f_6 f_7 := by rw [ef_7]; exact Ex_pU oo rfl rfl (by decide)
  have hg : GI cy M f_7 := by rw [ef_7]; exact hg.putI oo rfl ⟨by decide, by decide⟩ trivial
  rw [← ef_7] at hw
  have hO : ∀ x ∈ L0, x ≠ a0 → f_7 x = f0 x := fun x9 m9 h9 => Eq.trans (by rw [ef_7]; exact pU_ne h9) (hO x9 m9 h9)
  have hE := hE.trans hX
  have o_a0 := hX.1.1 _ _ o_a0
  have o_a1 := hX.1.2.1 _ _ _ o_a1
  have t_a0_1_f_7 : fI f_7 a0 1 = fI f_6 a0 1 := by rw [ef_7]; exact fI_pU (Or.inr (by decide))
  have t_a0_3_f_7 : fI f_7 a0 3 = fI f_6 a0 3 := by rw [ef_7]; exact fI_pU (Or.inr (by decide))
  have t_a0_4_f_7 : fI f_7 a0 4 = fI f_6 a0 4 := by rw [ef_7]; exact fI_pU (Or.inr (by decide))
  have t_a0_7_f_7 : fI f_7 a0 7 = fI f_6 a0 7 := by rw [ef_7]; exact fI_pU (Or.inr (by decide))
  have vf_7 : fI f_7 a0 8 = 0 := by rw [ef_7]; exact fI_pU_self oo rfl ⟨by decide, by decide⟩
  refine lv_aload_n hx hb dX5_init_39 rfl (lv_at hl 0 rfl) ?_
  refine q_iconst hx hb dX5_init_40 ?_
  refine q_puti (ci := 4) (C := RX5) (T := TX5) (N := 10) hx hb hts (fun w h => List.mem_cons_of_mem _ (mfX50 w h)) hown hK hw m_a0 o_a0 rfl 9 (by decide) (hts _ (List.mem_cons_of_mem _ (mr6 _ (List.mem_of_getElem? (i := 10) rfl)))) (fun _ h => h) tyX5 tyX5_ok nmX5 rfl (ty := .int) (by decide +kernel) rfl rfl dX5_init_41 (fun H locs hw => ?_)
  have oo := o_a0
  obtain ⟨f_8, ef_8⟩ : ∃ g : Nat → va_E, g = pU f_7 a0 9 (.int (iI 0)) := ⟨_, rfl⟩
  have hX : Ex cy f_7 f_8 := by rw [ef_8]; exact Ex_pU oo rfl rfl (by decide)
  have hg : GI cy M f_8 := by rw [ef_8]; exact hg.putI oo rfl ⟨by decide, by decide⟩ trivial
  rw [← ef_8] at hw
  have hO : ∀ x ∈ L0, x ≠ a0 → f_8 x = f0 x := fun x9 m9 h9 => Eq.trans (by rw [ef_8]; exact pU_ne h9) (hO x9 m9 h9)
  have hE := hE.trans hX
  have o_a0 := hX.1.1 _ _ o_a0
  have o_a1 := hX.1.2.1 _ _ _ o_a1
  have t_a0_1_f_8 : fI f_8 a0 1 = fI f_7 a0 1 := by rw [ef_8]; exact fI_pU (Or.inr (by decide))
  have t_a0_3_f_8 : fI f_8 a0 3 = fI f_7 a0 3 := by rw [ef_8]; exact fI_pU (Or.inr (by decide))
  have t_a0_4_f_8 : fI f_8 a0 4 = fI f_7 a0 4 := by rw [ef_8]; exact fI_pU (Or.inr (by decide))
  have t_a0_7_f_8 : fI f_8 a0 7 = fI f_7 a0 7 := by rw [ef_8]; exact fI_pU (Or.inr (by decide))
  have vf_8 : fI f_8 a0 9 = 0 := by rw [ef_8]; exact fI_pU_self oo rfl ⟨by decide, by decide⟩
  refine lv_aload_n hx hb dX5_init_44 rfl (lv_at hl 0 rfl) ?_
  refine lv_aload_n hx hb dX5_init_45 rfl (lv_at hl 1 rfl) ?_
  refine q_putFr (ci := 4) (C := RX5) (T := TX5) (N := 10) hx hb hts (fun w h => List.mem_cons_of_mem _ (mfX50 w h)) hown hK hw m_a0 o_a0 rfl 0 (by decide) (hts _ (List.mem_cons_of_mem _ (mr6 _ (List.mem_of_getElem? (i := 11) rfl)))) (fun _ h => h) tyX5 tyX5_ok nmX5 rfl hnm rfl (ty := tyX5 0) (by decide +kernel) rfl rfl rfl dX5_init_46 (fun H locs hw => ?_)
  have oo := o_a0
  obtain ⟨f_9, ef_9⟩ : ∃ g : Nat → va_E, g = pU f_8 a0 0 (.ref a1) := ⟨_, rfl⟩
  have hX : Ex cy f_8 f_9 := by rw [ef_9]; exact Ex_pU oo rfl rfl (by decide)
  have hg : GI cy M f_9 := by rw [ef_9]; exact hg.putR oo rfl ⟨a1, rfl, hma1, o_a1⟩
  rw [← ef_9] at hw
  have hO : ∀ x ∈ L0, x ≠ a0 → f_9 x = f0 x := fun x9 m9 h9 => Eq.trans (by rw [ef_9]; exact pU_ne h9) (hO x9 m9 h9)
  have hE := hE.trans hX
  have o_a0 := hX.1.1 _ _ o_a0
  have o_a1 := hX.1.2.1 _ _ _ o_a1
  have t_a0_1_f_9 : fI f_9 a0 1 = fI f_8 a0 1 := by rw [ef_9]; exact fI_pU (Or.inr (by decide))
  have t_a0_3_f_9 : fI f_9 a0 3 = fI f_8 a0 3 := by rw [ef_9]; exact fI_pU (Or.inr (by decide))
  have t_a0_4_f_9 : fI f_9 a0 4 = fI f_8 a0 4 := by rw [ef_9]; exact fI_pU (Or.inr (by decide))
  have t_a0_7_f_9 : fI f_9 a0 7 = fI f_8 a0 7 := by rw [ef_9]; exact fI_pU (Or.inr (by decide))
  have w_0 : fR f_9 a0 0 = some a1 := by rw [ef_9]; exact fR_pU_self oo rfl
  refine lv_aload_n hx hb dX5_init_49 rfl (lv_at hl 0 rfl) ?_
  refine lv_iload_n hx hb dX5_init_50 rfl (lv_at hl 2 rfl) ?_
  refine lv_aload_n hx hb dX5_init_51 rfl (lv_at hl 1 rfl) ?_
  refine q_alenI hx hb hK hw m_a1 0 o_a1 rfl dX5_init_52 ?_
  refine q_min hx hb (hml.trans hl.1.symm) hown (hts _ (List.mem_cons_of_mem _ (mr6 _ (List.mem_of_getElem? (i := 12) rfl)))) (hts _ (List.mem_cons_of_mem _ (mr6 _ (List.mem_of_getElem? (i := 13) rfl)))) (hts _ (List.mem_cons_of_mem _ (mr6 _ (List.mem_of_getElem? (i := 14) rfl)))) (hts _ (List.mem_cons_of_mem _ (mr6 _ (List.mem_of_getElem? (i := 15) rfl)))) (Nat.le_of_ble_eq_true rfl) (Nat.le_of_ble_eq_true rfl) (Nat.le_of_ble_eq_true rfl) (Nat.le_of_ble_eq_true rfl) ⟨lx2, ux2⟩ ⟨by decide, by decide⟩ dX5_init_53 (fun x_10 lx_10 ux_10 ex_10 => ?_)
  refine q_putFi (ci := 4) (C := RX5) (T := TX5) (N := 10) hx hb hts (fun w h => List.mem_cons_of_mem _ (mfX50 w h)) hown hK hw m_a0 o_a0 rfl 1 (by decide) (hts _ (List.mem_cons_of_mem _ (mr6 _ (List.mem_of_getElem? (i := 16) rfl)))) (fun _ h => h) tyX5 tyX5_ok nmX5 rfl hnm rfl (ty := .int) (by decide +kernel) rfl rfl dX5_init_56 (fun H locs hw => ?_)
  have oo := o_a0
  obtain ⟨f_11, ef_11⟩ : ∃ g : Nat → va_E, g = pU f_9 a0 1 (.int (iI x_10)) := ⟨_, rfl⟩
  have hX : Ex cy f_9 f_11 := by rw [ef_11]; exact Ex_pU oo rfl rfl (by decide)
  have hg : GI cy M f_11 := by rw [ef_11]; exact hg.putI oo rfl ⟨lx_10, ux_10⟩ (by show 0 ≤ x_10 ∧ x_10 ≤ 168; omega)
  rw [← ef_11] at hw
  have hO : ∀ x ∈ L0, x ≠ a0 → f_11 x = f0 x := fun x9 m9 h9 => Eq.trans (by rw [ef_11]; exact pU_ne h9) (hO x9 m9 h9)
  have hE := hE.trans hX
  have o_a0 := hX.1.1 _ _ o_a0
  have o_a1 := hX.1.2.1 _ _ _ o_a1
  have w_0 : fR f_11 a0 0 = some a1 := by rw [ef_11, fR_pU (Or.inr (by decide))]; exact w_0
  have t_a0_3_f_11 : fI f_11 a0 3 = fI f_9 a0 3 := by rw [ef_11]; exact fI_pU (Or.inr (by decide))
  have t_a0_4_f_11 : fI f_11 a0 4 = fI f_9 a0 4 := by rw [ef_11]; exact fI_pU (Or.inr (by decide))
  have t_a0_7_f_11 : fI f_11 a0 7 = fI f_9 a0 7 := by rw [ef_11]; exact fI_pU (Or.inr (by decide))
  have vf_11 : fI f_11 a0 1 = x_10 := by rw [ef_11]; exact fI_pU_self oo rfl ⟨lx_10, ux_10⟩
  exact q_ret_v hx hb hr hlocks hK hAe hw (Nat.le_of_ble_eq_true rfl) (Nat.le_of_ble_eq_true rfl) dX5_init_59 (by exact ⟨rfl, hg, hE, hO, ⟨⟨by omega, by omega⟩, ⟨by omega, by omega⟩, ⟨by omega, by omega⟩, ⟨by omega, by omega⟩⟩, w_0⟩)
set_option maxHeartbeats 4000000 in
set_option maxRecDepth 100000 in
theorem c_X5_makeRule {Z : Zt} (zo : Zok Z) (l : Launch) (D : va_G) (cy : Cy) (L0 : List Nat) (f0 : Nat → va_E) (a0 : Nat) (x1 : Int) (lx1 : -2147483648 ≤ x1) (ux1 : x1 ≤ 2147483647) (m_a0 : a0 ∈ L0) (o_a0 : Ob f0 a0 4) (hg : GI cy L0 f0) : Cr Z l yX5_makeRule (Cond.code yX5_makeRule cX5_makeRule 2 (some (.object "BookIndex$Rule")) :: TB) ({ frames := 3, cells := 1, slots := 7, locals := 68 } : Room) 1 7 D (tq cy) [.ref a0, .int (iI x1)] L0 f0 (fun (r : Nat) (L1 : List Nat) (f1 : Nat → va_E) => (∀ x ∈ L0, x ∈ L1) ∧ GI cy L1 f1 ∧ Al cy L0 f0 f1 ∧ (r ∈ L1 ∧ Rl f1 r)) := by
  refine Cr.enter (cc := cX5_makeRule) (n := 2) rfl (plainFor_of_name (by decide)) (Nat.le_of_ble_eq_true rfl) ?_
  intro p e s m below meth c ls A hx hb hr hts hown hlocks hnm hml hK hA hAe hw hZ hl
  have hown : s.vm.findClass RX5 = some m.cls := hown
  have hl : lv_has ls 2 [(0, .ref a0), (1, .int (iI x1))] := hl
  have hN : ZN s := (zo.2.2.2.2 _ _ _ hZ).2
  have hs : ∀ x ∈ L0, x ∈ L0 := fun _ h => h
  have hE : Al cy L0 f0 f0 := Al.refl cy L0 f0
  refine lv_aload_n hx hb dX5_makeRule_0 rfl (lv_at hl 0 rfl) ?_
  refine q_geti (ci := 4) (C := RX5) (T := TX5) (N := 10) hx hb hts (fun w h => List.mem_cons_of_mem _ (mfX50 w h)) hown hK hw m_a0 o_a0 rfl 6 (by decide) (hts _ (List.mem_cons_of_mem _ (mr6 _ (List.mem_of_getElem? (i := 7) rfl)))) (fun _ h => h) rfl dX5_makeRule_1 (fun x_1 lx_1 ux_1 ex_1 => ?_)
  have t4 : (iI x_1).toInt = x_1 := iI_toInt ⟨lx_1, ux_1⟩
  rcases (show (x_1 < 0 ∨ 2 < x_1) ∨ (x_1 = 0) ∨ (x_1 = 1) ∨ (x_1 = 2) by omega) with k4 | k4 | k4 | k4
  · refine lv_tableOut (tgt := 71) hx hb dX5_makeRule_4 (by rw [t4]; omega) (by decide) ?_
    refine q_new (ci := 2) (C := RX3) (T := TX3) (N := 7) (fs := [.int 0, .int 0, .int 0, .int 0, .int 0, .int 0, .int 0]) hx hb hts (fun w h => List.mem_cons_of_mem _ (mfX30 w h)) tyX3 tyX3_ok hown (hts _ (List.mem_cons_of_mem _ (mr12 _ (List.mem_of_getElem? (i := 16) rfl)))) (hts _ (List.mem_cons_of_mem _ (mr12 _ (List.mem_of_getElem? (i := 17) rfl)))) (hts _ (List.mem_cons_of_mem _ (mr12 _ (List.mem_of_getElem? (i := 18) rfl)))) hK hw hA rfl (by decide) (Nat.le_of_ble_eq_true rfl) (Nat.le_of_ble_eq_true rfl) dX5_makeRule_71 (fun q_2 H n_q_2 hw => ?_)
    obtain ⟨f_3, ef_3⟩ : ∃ g : Nat → va_E, g = va_up f0 q_2 (.inr (2, [.int 0, .int 0, .int 0, .int 0, .int 0, .int 0, .int 0])) := ⟨_, rfl⟩
    rw [← ef_3] at hw
    have hX : Al cy L0 f0 f_3 := by rw [ef_3]; exact Al.push n_q_2
    have hg : GI cy L0 f_3 := by rw [ef_3]; exact hg.push n_q_2
    have hM : ∀ x ∈ L0, x ∈ L0 ++ [q_2] := fun x h => List.mem_append_left _ h
    have hs0 := hs
    have hE := hE.trans hs (hX)
    have o_a0 := hX.1 _ m_a0 _ o_a0
    have mg_a0 := m_a0
    have m_a0 := hM _ m_a0
    have hs : ∀ x ∈ L0, x ∈ L0 ++ [q_2] := fun x h => hM x (hs x h)
    have m_q_2 : q_2 ∈ L0 ++ [q_2] := List.mem_append_right _ (List.mem_singleton.mpr rfl)
    have o_q_2 : Ob f_3 q_2 2 := by rw [ef_3]; exact ⟨_, va_up_self _ _ _, rfl⟩
    refine lv_dup hx hb dX5_makeRule_74 rfl ?_
    refine lv_aload_n hx hb dX5_makeRule_75 rfl (lv_at hl 0 rfl) ?_
    refine q_geti (ci := 4) (C := RX5) (T := TX5) (N := 10) hx hb hts (fun w h => List.mem_cons_of_mem _ (mfX50 w h)) hown hK hw m_a0 o_a0 rfl 6 (by decide) (hts _ (List.mem_cons_of_mem _ (mr6 _ (List.mem_of_getElem? (i := 7) rfl)))) (fun _ h => h) rfl dX5_makeRule_76 (fun x_4 lx_4 ux_4 ex_4 => ?_)
    refine lv_aload_n hx hb dX5_makeRule_79 rfl (lv_at hl 0 rfl) ?_
    refine q_geti (ci := 4) (C := RX5) (T := TX5) (N := 10) hx hb hts (fun w h => List.mem_cons_of_mem _ (mfX50 w h)) hown hK hw m_a0 o_a0 rfl 7 (by decide) (hts _ (List.mem_cons_of_mem _ (mr6 _ (List.mem_of_getElem? (i := 8) rfl)))) (fun _ h => h) rfl dX5_makeRule_80 (fun x_5 lx_5 ux_5 ex_5 => ?_)
    have bx_5 : -1 ≤ x_5 ∧ x_5 ≤ 999 := by rw [ex_5]; exact hg.1 _ mg_a0 4 7 o_a0
    refine lv_iload_n hx hb dX5_makeRule_83 rfl (lv_at hl 1 rfl) ?_
    refine lv_aload_n hx hb dX5_makeRule_84 rfl (lv_at hl 0 rfl) ?_
    refine q_geti (ci := 4) (C := RX5) (T := TX5) (N := 10) hx hb hts (fun w h => List.mem_cons_of_mem _ (mfX50 w h)) hown hK hw m_a0 o_a0 rfl 8 (by decide) (hts _ (List.mem_cons_of_mem _ (mr6 _ (List.mem_of_getElem? (i := 9) rfl)))) (fun _ h => h) rfl dX5_makeRule_85 (fun x_6 lx_6 ux_6 ex_6 => ?_)
    refine lv_aload_n hx hb dX5_makeRule_88 rfl (lv_at hl 0 rfl) ?_
    refine q_geti (ci := 4) (C := RX5) (T := TX5) (N := 10) hx hb hts (fun w h => List.mem_cons_of_mem _ (mfX50 w h)) hown hK hw m_a0 o_a0 rfl 9 (by decide) (hts _ (List.mem_cons_of_mem _ (mr6 _ (List.mem_of_getElem? (i := 10) rfl)))) (fun _ h => h) rfl dX5_makeRule_89 (fun x_7 lx_7 ux_7 ex_7 => ?_)
    refine q_call_v hA hK hw (va_runI (As := [.int (iI x_4), .int (iI x_5), .int (iI x1), .int (iI x_6), .int (iI x_7)]) (rest := [.ref q_2]) ⟨hx, hb, hml, hown, hts⟩ (c_X3_init zo l D cy (L0 ++ [q_2]) f_3 q_2 x_4 lx_4 ux_4 x_5 lx_5 ux_5 x1 lx1 ux1 x_6 lx_6 ux_6 x_7 lx_7 ux_7 m_q_2 o_q_2 (L0) hM hg (by omega) (by omega) _) (cwI 5 hts (gT (inC (mr13 _ (List.mem_of_getElem? (i := 16) rfl)))) rfl rfl rfl (hts _ (List.mem_cons_of_mem _ (mr12 _ (List.mem_of_getElem? (i := 18) rfl)))) (hts _ (List.mem_cons_of_mem _ (mr13 _ (List.mem_of_getElem? (i := 14) rfl)))) (hts _ (List.mem_cons_of_mem _ (mr13 _ (List.mem_of_getElem? (i := 15) rfl)))) rfl (by decide +kernel) ⟨Nat.le_of_ble_eq_true rfl, Nat.le_of_ble_eq_true rfl⟩) (Wd.preS zo hA hZ hw hK) rfl rfl hl.1 rfl (lv_room (Nat.le_of_ble_eq_true rfl)) dX5_makeRule_92 ⟨Nat.le_of_ble_eq_true rfl, Nat.le_of_ble_eq_true rfl⟩) (fun L1 f_9 H locs ex_8 hw => ?_)
    obtain ⟨rfl, hg, hX, ex_8⟩ := ex_8
    have hE := hE.trans hs (hX.ey.al _)
    have o_a0 := hX.1.1 _ _ o_a0
    have o_q_2 := hX.1.1 _ _ o_q_2
    have ex_8 := ex_8.2
    have hg := hg.addOb o_q_2 (fcond_2 ex_8) rcond_2
    exact q_ret_r hx hb hr hlocks hK hAe hw (Nat.le_of_ble_eq_true rfl) (Nat.le_of_ble_eq_true rfl) dX5_makeRule_95 (by exact ⟨hs, hg, hE, m_q_2, Or.inr (Or.inl o_q_2)⟩)
  · refine lv_tableIn (tgt := 32) (off := 28) hx hb dX5_makeRule_4 (by rw [t4]; omega) (by rw [t4]; omega) (by rw [t4, k4]; rfl) (by decide) ?_
    refine q_new (ci := 3) (C := RX4) (T := TX4) (N := 3) (fs := [.int 0, .int 0, .int 0]) hx hb hts (fun w h => List.mem_cons_of_mem _ (mfX40 w h)) tyX4 tyX4_ok hown (hts _ (List.mem_cons_of_mem _ (mr12 _ (List.mem_of_getElem? (i := 9) rfl)))) (hts _ (List.mem_cons_of_mem _ (mr2 _ (List.mem_of_getElem? (i := 6) rfl)))) (hts _ (List.mem_cons_of_mem _ (mr2 _ (List.mem_of_getElem? (i := 7) rfl)))) hK hw hA rfl (by decide) (Nat.le_of_ble_eq_true rfl) (Nat.le_of_ble_eq_true rfl) dX5_makeRule_32 (fun q_10 H n_q_10 hw => ?_)
    obtain ⟨f_11, ef_11⟩ : ∃ g : Nat → va_E, g = va_up f0 q_10 (.inr (3, [.int 0, .int 0, .int 0])) := ⟨_, rfl⟩
    rw [← ef_11] at hw
    have hX : Al cy L0 f0 f_11 := by rw [ef_11]; exact Al.push n_q_10
    have hg : GI cy L0 f_11 := by rw [ef_11]; exact hg.push n_q_10
    have hM : ∀ x ∈ L0, x ∈ L0 ++ [q_10] := fun x h => List.mem_append_left _ h
    have hs0 := hs
    have hE := hE.trans hs (hX)
    have o_a0 := hX.1 _ m_a0 _ o_a0
    have mg_a0 := m_a0
    have m_a0 := hM _ m_a0
    have hs : ∀ x ∈ L0, x ∈ L0 ++ [q_10] := fun x h => hM x (hs x h)
    have m_q_10 : q_10 ∈ L0 ++ [q_10] := List.mem_append_right _ (List.mem_singleton.mpr rfl)
    have o_q_10 : Ob f_11 q_10 3 := by rw [ef_11]; exact ⟨_, va_up_self _ _ _, rfl⟩
    refine lv_dup hx hb dX5_makeRule_35 rfl ?_
    refine lv_iload_n hx hb dX5_makeRule_36 rfl (lv_at hl 1 rfl) ?_
    refine q_call_v hA hK hw (va_runI (As := [.int (iI x1)]) (rest := [.ref q_10]) ⟨hx, hb, hml, hown, hts⟩ (c_X4_init zo l D cy (L0 ++ [q_10]) f_11 q_10 x1 lx1 ux1 m_q_10 o_q_10 (L0) hM hg _) (cwI 1 hts (gT (inC (mr2 _ (List.mem_of_getElem? (i := 12) rfl)))) rfl rfl rfl (hts _ (List.mem_cons_of_mem _ (mr2 _ (List.mem_of_getElem? (i := 7) rfl)))) (hts _ (List.mem_cons_of_mem _ (mr12 _ (List.mem_of_getElem? (i := 19) rfl)))) (hts _ (List.mem_cons_of_mem _ (mr2 _ (List.mem_of_getElem? (i := 11) rfl)))) rfl (by decide +kernel) ⟨Nat.le_of_ble_eq_true rfl, Nat.le_of_ble_eq_true rfl⟩) (Wd.preS zo hA hZ hw hK) rfl rfl hl.1 rfl (lv_room (Nat.le_of_ble_eq_true rfl)) dX5_makeRule_37 ⟨Nat.le_of_ble_eq_true rfl, Nat.le_of_ble_eq_true rfl⟩) (fun L1 f_13 H locs ex_12 hw => ?_)
    obtain ⟨rfl, hg, hX, ex_12⟩ := ex_12
    have hE := hE.trans hs (hX.ey.al _)
    have o_a0 := hX.1.1 _ _ o_a0
    have o_q_10 := hX.1.1 _ _ o_q_10
    have ex_12 := ex_12.2
    have hg := hg.addOb o_q_10 fcond_3 rcond_3
    exact q_ret_r hx hb hr hlocks hK hAe hw (Nat.le_of_ble_eq_true rfl) (Nat.le_of_ble_eq_true rfl) dX5_makeRule_40 (by exact ⟨hs, hg, hE, m_q_10, Or.inr (Or.inr (Or.inl o_q_10))⟩)
  · refine lv_tableIn (tgt := 41) (off := 37) hx hb dX5_makeRule_4 (by rw [t4]; omega) (by rw [t4]; omega) (by rw [t4, k4]; rfl) (by decide) ?_
    refine q_new (ci := 1) (C := RX2) (T := TX2) (N := 4) (fs := [.int 0, .int 0, .int 0, .int 0]) hx hb hts (fun w h => List.mem_cons_of_mem _ (mfX20 w h)) tyX2 tyX2_ok hown (hts _ (List.mem_cons_of_mem _ (mr12 _ (List.mem_of_getElem? (i := 10) rfl)))) (hts _ (List.mem_cons_of_mem _ (mr12 _ (List.mem_of_getElem? (i := 11) rfl)))) (hts _ (List.mem_cons_of_mem _ (mr12 _ (List.mem_of_getElem? (i := 12) rfl)))) hK hw hA rfl (by decide) (Nat.le_of_ble_eq_true rfl) (Nat.le_of_ble_eq_true rfl) dX5_makeRule_41 (fun q_14 H n_q_14 hw => ?_)
    obtain ⟨f_15, ef_15⟩ : ∃ g : Nat → va_E, g = va_up f0 q_14 (.inr (1, [.int 0, .int 0, .int 0, .int 0])) := ⟨_, rfl⟩
    rw [← ef_15] at hw
    have hX : Al cy L0 f0 f_15 := by rw [ef_15]; exact Al.push n_q_14
    have hg : GI cy L0 f_15 := by rw [ef_15]; exact hg.push n_q_14
    have hM : ∀ x ∈ L0, x ∈ L0 ++ [q_14] := fun x h => List.mem_append_left _ h
    have hs0 := hs
    have hE := hE.trans hs (hX)
    have o_a0 := hX.1 _ m_a0 _ o_a0
    have mg_a0 := m_a0
    have m_a0 := hM _ m_a0
    have hs : ∀ x ∈ L0, x ∈ L0 ++ [q_14] := fun x h => hM x (hs x h)
    have m_q_14 : q_14 ∈ L0 ++ [q_14] := List.mem_append_right _ (List.mem_singleton.mpr rfl)
    have o_q_14 : Ob f_15 q_14 1 := by rw [ef_15]; exact ⟨_, va_up_self _ _ _, rfl⟩
    refine lv_dup hx hb dX5_makeRule_44 rfl ?_
    refine lv_aload_n hx hb dX5_makeRule_45 rfl (lv_at hl 0 rfl) ?_
    refine q_geti (ci := 4) (C := RX5) (T := TX5) (N := 10) hx hb hts (fun w h => List.mem_cons_of_mem _ (mfX50 w h)) hown hK hw m_a0 o_a0 rfl 7 (by decide) (hts _ (List.mem_cons_of_mem _ (mr6 _ (List.mem_of_getElem? (i := 8) rfl)))) (fun _ h => h) rfl dX5_makeRule_46 (fun x_16 lx_16 ux_16 ex_16 => ?_)
    have bx_16 : -1 ≤ x_16 ∧ x_16 ≤ 999 := by rw [ex_16]; exact hg.1 _ mg_a0 4 7 o_a0
    refine lv_iload_n hx hb dX5_makeRule_49 rfl (lv_at hl 1 rfl) ?_
    refine q_call_v hA hK hw (va_runI (As := [.int (iI x_16), .int (iI x1)]) (rest := [.ref q_14]) ⟨hx, hb, hml, hown, hts⟩ (c_X2_init zo l D cy (L0 ++ [q_14]) f_15 q_14 x_16 lx_16 ux_16 x1 lx1 ux1 m_q_14 o_q_14 (L0) hM hg _) (cwI 2 hts (gT (inC (mr12 _ (List.mem_of_getElem? (i := 22) rfl)))) rfl rfl rfl (hts _ (List.mem_cons_of_mem _ (mr12 _ (List.mem_of_getElem? (i := 12) rfl)))) (hts _ (List.mem_cons_of_mem _ (mr12 _ (List.mem_of_getElem? (i := 20) rfl)))) (hts _ (List.mem_cons_of_mem _ (mr12 _ (List.mem_of_getElem? (i := 21) rfl)))) rfl (by decide +kernel) ⟨Nat.le_of_ble_eq_true rfl, Nat.le_of_ble_eq_true rfl⟩) (Wd.preS zo hA hZ hw hK) rfl rfl hl.1 rfl (lv_room (Nat.le_of_ble_eq_true rfl)) dX5_makeRule_50 ⟨Nat.le_of_ble_eq_true rfl, Nat.le_of_ble_eq_true rfl⟩) (fun L1 f_18 H locs ex_17 hw => ?_)
    obtain ⟨rfl, hg, hX, ex_17⟩ := ex_17
    have hE := hE.trans hs (hX.ey.al _)
    have o_a0 := hX.1.1 _ _ o_a0
    have o_q_14 := hX.1.1 _ _ o_q_14
    have ex_17 := ex_17.2
    have hg := hg.addOb o_q_14 (fcond_1 ex_17) rcond_1
    exact q_ret_r hx hb hr hlocks hK hAe hw (Nat.le_of_ble_eq_true rfl) (Nat.le_of_ble_eq_true rfl) dX5_makeRule_53 (by exact ⟨hs, hg, hE, m_q_14, Or.inl o_q_14⟩)
  · refine lv_tableIn (tgt := 54) (off := 50) hx hb dX5_makeRule_4 (by rw [t4]; omega) (by rw [t4]; omega) (by rw [t4, k4]; rfl) (by decide) ?_
    refine q_new (ci := 6) (C := RX8) (T := TX8) (N := 6) (fs := [.int 0, .int 0, .int 0, .int 0, .int 0, .int 0]) hx hb hts (fun w h => List.mem_cons_of_mem _ (mfX80 w h)) tyX8 tyX8_ok hown (hts _ (List.mem_cons_of_mem _ (mr12 _ (List.mem_of_getElem? (i := 13) rfl)))) (hts _ (List.mem_cons_of_mem _ (mr12 _ (List.mem_of_getElem? (i := 14) rfl)))) (hts _ (List.mem_cons_of_mem _ (mr12 _ (List.mem_of_getElem? (i := 15) rfl)))) hK hw hA rfl (by decide) (Nat.le_of_ble_eq_true rfl) (Nat.le_of_ble_eq_true rfl) dX5_makeRule_54 (fun q_19 H n_q_19 hw => ?_)
    obtain ⟨f_20, ef_20⟩ : ∃ g : Nat → va_E, g = va_up f0 q_19 (.inr (6, [.int 0, .int 0, .int 0, .int 0, .int 0, .int 0])) := ⟨_, rfl⟩
    rw [← ef_20] at hw
    have hX : Al cy L0 f0 f_20 := by rw [ef_20]; exact Al.push n_q_19
    have hg : GI cy L0 f_20 := by rw [ef_20]; exact hg.push n_q_19
    have hM : ∀ x ∈ L0, x ∈ L0 ++ [q_19] := fun x h => List.mem_append_left _ h
    have hs0 := hs
    have hE := hE.trans hs (hX)
    have o_a0 := hX.1 _ m_a0 _ o_a0
    have mg_a0 := m_a0
    have m_a0 := hM _ m_a0
    have hs : ∀ x ∈ L0, x ∈ L0 ++ [q_19] := fun x h => hM x (hs x h)
    have m_q_19 : q_19 ∈ L0 ++ [q_19] := List.mem_append_right _ (List.mem_singleton.mpr rfl)
    have o_q_19 : Ob f_20 q_19 6 := by rw [ef_20]; exact ⟨_, va_up_self _ _ _, rfl⟩
    refine lv_dup hx hb dX5_makeRule_57 rfl ?_
    refine lv_aload_n hx hb dX5_makeRule_58 rfl (lv_at hl 0 rfl) ?_
    refine q_geti (ci := 4) (C := RX5) (T := TX5) (N := 10) hx hb hts (fun w h => List.mem_cons_of_mem _ (mfX50 w h)) hown hK hw m_a0 o_a0 rfl 7 (by decide) (hts _ (List.mem_cons_of_mem _ (mr6 _ (List.mem_of_getElem? (i := 8) rfl)))) (fun _ h => h) rfl dX5_makeRule_59 (fun x_21 lx_21 ux_21 ex_21 => ?_)
    have bx_21 : -1 ≤ x_21 ∧ x_21 ≤ 999 := by rw [ex_21]; exact hg.1 _ mg_a0 4 7 o_a0
    refine lv_iload_n hx hb dX5_makeRule_62 rfl (lv_at hl 1 rfl) ?_
    refine lv_aload_n hx hb dX5_makeRule_63 rfl (lv_at hl 0 rfl) ?_
    refine q_geti (ci := 4) (C := RX5) (T := TX5) (N := 10) hx hb hts (fun w h => List.mem_cons_of_mem _ (mfX50 w h)) hown hK hw m_a0 o_a0 rfl 8 (by decide) (hts _ (List.mem_cons_of_mem _ (mr6 _ (List.mem_of_getElem? (i := 9) rfl)))) (fun _ h => h) rfl dX5_makeRule_64 (fun x_22 lx_22 ux_22 ex_22 => ?_)
    refine q_call_v hA hK hw (va_runI (As := [.int (iI x_21), .int (iI x1), .int (iI x_22)]) (rest := [.ref q_19]) ⟨hx, hb, hml, hown, hts⟩ (c_X8_init zo l D cy (L0 ++ [q_19]) f_20 q_19 x_21 lx_21 ux_21 x1 lx1 ux1 x_22 lx_22 ux_22 m_q_19 o_q_19 (L0) hM hg _) (cwI 3 hts (gT (inC (mr13 _ (List.mem_of_getElem? (i := 6) rfl)))) rfl rfl rfl (hts _ (List.mem_cons_of_mem _ (mr12 _ (List.mem_of_getElem? (i := 15) rfl)))) (hts _ (List.mem_cons_of_mem _ (mr13 _ (List.mem_of_getElem? (i := 4) rfl)))) (hts _ (List.mem_cons_of_mem _ (mr13 _ (List.mem_of_getElem? (i := 5) rfl)))) rfl (by decide +kernel) ⟨Nat.le_of_ble_eq_true rfl, Nat.le_of_ble_eq_true rfl⟩) (Wd.preS zo hA hZ hw hK) rfl rfl hl.1 rfl (lv_room (Nat.le_of_ble_eq_true rfl)) dX5_makeRule_67 ⟨Nat.le_of_ble_eq_true rfl, Nat.le_of_ble_eq_true rfl⟩) (fun L1 f_24 H locs ex_23 hw => ?_)
    obtain ⟨rfl, hg, hX, ex_23⟩ := ex_23
    have hE := hE.trans hs (hX.ey.al _)
    have o_a0 := hX.1.1 _ _ o_a0
    have o_q_19 := hX.1.1 _ _ o_q_19
    have ex_23 := ex_23.2
    have hg := hg.addOb o_q_19 (fcond_6 ex_23) rcond_6
    exact q_ret_r hx hb hr hlocks hK hAe hw (Nat.le_of_ble_eq_true rfl) (Nat.le_of_ble_eq_true rfl) dX5_makeRule_70 (by exact ⟨hs, hg, hE, m_q_19, Or.inr (Or.inr (Or.inr o_q_19))⟩)
set_option maxHeartbeats 4000000 in
set_option maxRecDepth 100000 in
theorem c_X9_image {Z : Zt} (zo : Zok Z) (l : Launch) (D : va_G) (cy : Cy) (L0 : List Nat) (f0 : Nat → va_E) (a0 : Nat) (x1 : Int) (lx1 : -2147483648 ≤ x1) (ux1 : x1 ≤ 2147483647) (m_a0 : a0 ∈ L0) (o_a0 : Ob f0 a0 7) (hg : GI cy L0 f0) : Ci Z l yX9_image (Cond.code yX9_image cX9_image 2 (some .boolean) :: TB) ({ frames := 4, cells := 39, slots := 581, locals := 103 } : Room) 39 581 D (tq cy) [.ref a0, .int (iI x1)] L0 f0 (fun (r : Int) (L1 : List Nat) (f1 : Nat → va_E) => (∀ x ∈ L0, x ∈ L1) ∧ GI cy L1 f1 ∧ (∀ a ∈ L0, ∀ ci : Nat, Ob f0 a ci → Ob f1 a ci) ∧ (r = 1 ∧ 0 ≤ x1 ∧ x1 ≤ 1 ∨ r = 0 ∧ (x1 < 0 ∨ 1 < x1))) := by
  refine Ci.enter (cc := cX9_image) (n := 2) rfl (plainFor_of_name (by decide)) (Nat.le_of_ble_eq_true rfl) ?_
  intro p e s m below meth c ls A hx hb hr hts hown hlocks hnm hml hK hA hAe hw hZ hl
  have hown : s.vm.findClass RX9 = some m.cls := hown
  have hl : lv_has ls 2 [(0, .ref a0), (1, .int (iI x1))] := hl
  have hN : ZN s := (zo.2.2.2.2 _ _ _ hZ).2
  have hs : ∀ x ∈ L0, x ∈ L0 := fun _ h => h
  have hE : (∀ a ∈ L0, ∀ ci : Nat, Ob f0 a ci → Ob f0 a ci) := fun _ _ _ o => o
  refine lv_iload_n hx hb dX9_image_0 rfl (lv_at hl 1 rfl) ?_
  refine q_if_lt (tgt := 13) hx hb dX9_image_1 (by decide) ⟨lx1, ux1⟩ (fun c1 => ?_) (fun c1 => ?_)
  · refine q_iconst hx hb dX9_image_13 ?_
    exact q_ret_z hx hb hr hlocks hK hAe hw (by omega) (Nat.le_of_ble_eq_true rfl) (Nat.le_of_ble_eq_true rfl) dX9_image_14 (by exact ⟨hs, hg, hE, by omega⟩)
  · refine lv_iload_n hx hb dX9_image_4 rfl (lv_at hl 1 rfl) ?_
    refine lv_aload_n hx hb dX9_image_5 rfl (lv_at hl 0 rfl) ?_
    obtain ⟨r_1, er_1, m_r_1, o_r_1⟩ := (show ∃ r, fR f0 a0 3 = some r ∧ r ∈ L0 ∧ ArR f0 r cy.2.2.2.2 2 from hg.2.1 _ m_a0 7 3 o_a0)
    refine q_getr (ci := 7) (C := RX9) (T := TX9) (N := 4) hx hb hts (fun w h => List.mem_cons_of_mem _ (mfX90 w h)) hown hK hw m_a0 o_a0 rfl 3 (by decide) (hts _ (List.mem_cons_of_mem _ (mr1 _ (List.mem_of_getElem? (i := 21) rfl)))) (fun _ h => h) rfl er_1 dX9_image_6 ?_
    refine q_alenR hx hb hK hw m_r_1 4 o_r_1 rfl dX9_image_9 ?_
    refine q_icmp_lt (tgt := 15) hx hb dX9_image_10 (by decide) ⟨lx1, ux1⟩ ⟨by decide, by decide⟩ (fun c10 => ?_) (fun c10 => ?_)
    · refine lv_aload_n hx hb dX9_image_15 rfl (lv_at hl 0 rfl) ?_
      refine q_getr (ci := 7) (C := RX9) (T := TX9) (N := 4) hx hb hts (fun w h => List.mem_cons_of_mem _ (mfX90 w h)) hown hK hw m_a0 o_a0 rfl 3 (by decide) (hts _ (List.mem_cons_of_mem _ (mr1 _ (List.mem_of_getElem? (i := 21) rfl)))) (fun _ h => h) rfl er_1 dX9_image_16 ?_
      refine lv_iload_n hx hb dX9_image_19 rfl (lv_at hl 1 rfl) ?_
      rcases hg.2.2.2 _ m_r_1 x1 o_r_1 (by omega) (by omega) with er_3 | ⟨r_3, er_3, m_r_3, o_r_3⟩
      · refine q_aald hx hb hK hw m_r_1 4 o_r_1 rfl ⟨lx1, ux1⟩ (by omega) (by omega) er_3 dX9_image_20 ?_
        show W _ _ _ _ _ _ _ _ _ _ _ _ _ _ _ (F0 m 21 ls (.null :: []))
        refine lv_ifnonnullN hx hb dX9_image_21 ?_
        refine lv_aload_n hx hb dX9_image_24 rfl (lv_at hl 0 rfl) ?_
        refine q_getr (ci := 7) (C := RX9) (T := TX9) (N := 4) hx hb hts (fun w h => List.mem_cons_of_mem _ (mfX90 w h)) hown hK hw m_a0 o_a0 rfl 3 (by decide) (hts _ (List.mem_cons_of_mem _ (mr1 _ (List.mem_of_getElem? (i := 21) rfl)))) (fun _ h => h) rfl er_1 dX9_image_25 ?_
        refine lv_iload_n hx hb dX9_image_28 rfl (lv_at hl 1 rfl) ?_
        refine q_new (ci := 5) (C := RX7) (T := TX7) (N := 2) (fs := [.null, .int 0]) hx hb hts (fun w h => List.mem_cons_of_mem _ (mfX70 w h)) tyX7 tyX7_ok hown (hts _ (List.mem_cons_of_mem _ (mr1 _ (List.mem_of_getElem? (i := 17) rfl)))) (hts _ (List.mem_cons_of_mem _ (mr1 _ (List.mem_of_getElem? (i := 18) rfl)))) (hts _ (List.mem_cons_of_mem _ (mr1 _ (List.mem_of_getElem? (i := 19) rfl)))) hK hw hA rfl (by decide) (Nat.le_of_ble_eq_true rfl) (Nat.le_of_ble_eq_true rfl) dX9_image_29 (fun q_4 H n_q_4 hw => ?_)
        obtain ⟨f_5, ef_5⟩ : ∃ g : Nat → va_E, g = va_up f0 q_4 (.inr (5, [.null, .int 0])) := ⟨_, rfl⟩
        rw [← ef_5] at hw
        have hX : Al cy L0 f0 f_5 := by rw [ef_5]; exact Al.push n_q_4
        have hg : GI cy L0 f_5 := by rw [ef_5]; exact hg.push n_q_4
        have hM : ∀ x ∈ L0, x ∈ L0 ++ [q_4] := fun x h => List.mem_append_left _ h
        have hs0 := hs
        have er_1 : fR f_5 a0 3 = some r_1 := (show fR f_5 a0 3 = fR f0 a0 3 by rw [ef_5]; exact fR_of (va_up_ne _ _ (fun z => n_q_4 (z ▸ m_a0)))).trans er_1
        have hE := fun a m ci o => hX.1 a (hs a m) ci (hE a m ci o)
        have o_a0 := hX.1 _ m_a0 _ o_a0
        have o_r_1 := hX.2.2.1 _ m_r_1 _ _ o_r_1
        have mg_a0 := m_a0
        have m_a0 := hM _ m_a0
        have mg_r_1 := m_r_1
        have m_r_1 := hM _ m_r_1
        have hs : ∀ x ∈ L0, x ∈ L0 ++ [q_4] := fun x h => hM x (hs x h)
        have m_q_4 : q_4 ∈ L0 ++ [q_4] := List.mem_append_right _ (List.mem_singleton.mpr rfl)
        have o_q_4 : Ob f_5 q_4 5 := by rw [ef_5]; exact ⟨_, va_up_self _ _ _, rfl⟩
        refine lv_dup hx hb dX9_image_32 rfl ?_
        refine q_call_v hA hK hw (va_runI (As := []) (rest := [.ref q_4, .int (iI x1), .ref r_1]) ⟨hx, hb, hml, hown, hts⟩ (c_X7_init zo l D cy (L0 ++ [q_4]) f_5 q_4 m_q_4 o_q_4 (L0) hM hg n_q_4 _) (cwI 0 hts (gT (inC (mr2 _ (List.mem_of_getElem? (i := 0) rfl)))) rfl rfl rfl (hts _ (List.mem_cons_of_mem _ (mr1 _ (List.mem_of_getElem? (i := 19) rfl)))) (hts _ (List.mem_cons_of_mem _ (mr1 _ (List.mem_of_getElem? (i := 22) rfl)))) (hts _ (List.mem_cons_of_mem _ (mr1 _ (List.mem_of_getElem? (i := 23) rfl)))) rfl (by decide +kernel) ⟨Nat.le_of_ble_eq_true rfl, Nat.le_of_ble_eq_true rfl⟩) (Wd.preS zo hA hZ hw hK) rfl rfl hl.1 rfl (lv_room (Nat.le_of_ble_eq_true rfl)) dX9_image_33 ⟨Nat.le_of_ble_eq_true rfl, Nat.le_of_ble_eq_true rfl⟩) (fun L_8 f_7 H locs ex_6 hw => ?_)
        obtain ⟨M_9, p1, p2, p3, p4, p5, p6, hg, hq, o_q_4⟩ := ex_6
        have hg : GI cy L_8 f_7 := hg.same p2 (fun x h => (p6 x h).elim (fun h => (List.mem_append.mp h).elim (fun h => p1 x h) (fun h => by rw [List.mem_singleton.mp h]; exact p4)) id)
        have hE := fun a m ci o => Ob_of (hq a (hs a m) (fun z => n_q_4 (z ▸ hs0 a m))) (hE a m ci o)
        have o_a0 := Ob_of (hq _ m_a0 (fun h => n_q_4 (h ▸ mg_a0))) o_a0
        have o_r_1 := ArR_of (hq _ m_r_1 (fun h => n_q_4 (h ▸ mg_r_1))) o_r_1
        have er_1 : fR f_7 a0 3 = some r_1 := (fR_of (hq _ m_a0 (fun h => n_q_4 (h ▸ mg_a0)))).trans er_1
        have m_a0 := p5 _ m_a0
        have m_q_4 := p5 _ m_q_4
        have m_r_1 := p5 _ m_r_1
        have hs : ∀ x ∈ L0, x ∈ L_8 := fun x h => p5 x (hs x h)
        refine q_aast hx hb hK hw m_r_1 4 o_r_1 rfl m_q_4 o_q_4 rfl ⟨lx1, ux1⟩ (by omega) (by omega) dX9_image_36 (fun H locs hw => ?_)
        have oo := o_r_1
        have ov := o_q_4
        obtain ⟨f_10, ef_10⟩ : ∃ g : Nat → va_E, g = rU f_7 r_1 x1 (some q_4) := ⟨_, rfl⟩
        have hX : Sh f_7 f_10 := by rw [ef_10]; exact Sh_rU oo
        have hg : GI cy L_8 f_10 := by rw [ef_10]; exact hg.putS oo (by omega) m_q_4 ov
        rw [← ef_10] at hw
        have hE := fun a m ci o => hX.1 a ci (hE a m ci o)
        have o_a0 := hX.1 _ _ o_a0
        have o_r_1 := hX.2.2 _ _ _ oo
        have o_q_4 := hX.1 _ _ ov
        have eq_4 : aR f_10 r_1 x1 = some q_4 := by rw [ef_10]; exact aR_rU_self oo
        have er_1 : fR f_10 a0 3 = some r_1 := by rw [ef_10]; exact (fR_rU oo).trans er_1
        refine lv_aload_n hx hb dX9_image_37 rfl (lv_at hl 0 rfl) ?_
        refine q_getr (ci := 7) (C := RX9) (T := TX9) (N := 4) hx hb hts (fun w h => List.mem_cons_of_mem _ (mfX90 w h)) hown hK hw m_a0 o_a0 rfl 3 (by decide) (hts _ (List.mem_cons_of_mem _ (mr1 _ (List.mem_of_getElem? (i := 21) rfl)))) (fun _ h => h) rfl er_1 dX9_image_38 ?_
        refine lv_iload_n hx hb dX9_image_41 rfl (lv_at hl 1 rfl) ?_
        refine q_aald hx hb hK hw m_r_1 4 o_r_1 rfl ⟨lx1, ux1⟩ (by omega) (by omega) eq_4 dX9_image_42 ?_
        show W _ _ _ _ _ _ _ _ _ _ _ _ _ _ _ (F0 m 43 ls (.ref q_4 :: []))
        refine lv_aload_n hx hb dX9_image_43 rfl (lv_at hl 0 rfl) ?_
        obtain ⟨r_12, er_12, m_r_12, o_r_12⟩ := (show ∃ r, fR f_10 a0 2 = some r ∧ r ∈ L_8 ∧ Ob f_10 r 5 from hg.2.1 _ m_a0 7 2 o_a0)
        refine q_getr (ci := 7) (C := RX9) (T := TX9) (N := 4) hx hb hts (fun w h => List.mem_cons_of_mem _ (mfX90 w h)) hown hK hw m_a0 o_a0 rfl 2 (by decide) (hts _ (List.mem_cons_of_mem _ (mr1 _ (List.mem_of_getElem? (i := 20) rfl)))) (fun _ h => h) rfl er_12 dX9_image_44 ?_
        refine q_call_v hA hK hw (va_runV (As := [.ref r_12]) (rest := []) ⟨hx, hb, hml, hown, hts⟩ (c_X7_copyFrom zo l D cy L_8 f_10 q_4 r_12 m_q_4 o_q_4 m_r_12 o_r_12 hg _) (cwV 1 hts (gT (inV (mr44 _ (List.mem_of_getElem? (i := 18) rfl)) (mr44 _ (List.mem_of_getElem? (i := 19) rfl)) (mr44 _ (List.mem_of_getElem? (i := 20) rfl)) (mr1 _ (List.mem_of_getElem? (i := 19) rfl)) (mr44 _ (List.mem_of_getElem? (i := 21) rfl)))) rfl rfl rfl (by decide +kernel) ⟨Nat.le_of_ble_eq_true rfl, Nat.le_of_ble_eq_true rfl⟩) (Wd.preV zo hA hZ hw hK m_q_4 o_q_4 rfl) rfl rfl hl.1 rfl (lv_room (Nat.le_of_ble_eq_true rfl)) dX9_image_47 ⟨Nat.le_of_ble_eq_true rfl, Nat.le_of_ble_eq_true rfl⟩) (fun L1 f_14 H locs ex_13 hw => ?_)
        obtain ⟨rfl, hg, hX, ex_13⟩ := ex_13
        have hE := fun a m ci o => hX.1.1 a ci (hE a m ci o)
        have o_a0 := hX.1.1 _ _ o_a0
        refine q_iconst hx hb dX9_image_50 ?_
        exact q_ret_z hx hb hr hlocks hK hAe hw (by omega) (Nat.le_of_ble_eq_true rfl) (Nat.le_of_ble_eq_true rfl) dX9_image_51 (by exact ⟨hs, hg, hE, by omega⟩)
      · refine q_aald hx hb hK hw m_r_1 4 o_r_1 rfl ⟨lx1, ux1⟩ (by omega) (by omega) er_3 dX9_image_20 ?_
        show W _ _ _ _ _ _ _ _ _ _ _ _ _ _ _ (F0 m 21 ls (.ref r_3 :: []))
        refine lv_ifnonnull (tgt := 37) hx hb dX9_image_21 (by decide) ?_
        refine lv_aload_n hx hb dX9_image_37 rfl (lv_at hl 0 rfl) ?_
        refine q_getr (ci := 7) (C := RX9) (T := TX9) (N := 4) hx hb hts (fun w h => List.mem_cons_of_mem _ (mfX90 w h)) hown hK hw m_a0 o_a0 rfl 3 (by decide) (hts _ (List.mem_cons_of_mem _ (mr1 _ (List.mem_of_getElem? (i := 21) rfl)))) (fun _ h => h) rfl er_1 dX9_image_38 ?_
        refine lv_iload_n hx hb dX9_image_41 rfl (lv_at hl 1 rfl) ?_
        refine q_aald hx hb hK hw m_r_1 4 o_r_1 rfl ⟨lx1, ux1⟩ (by omega) (by omega) er_3 dX9_image_42 ?_
        show W _ _ _ _ _ _ _ _ _ _ _ _ _ _ _ (F0 m 43 ls (.ref r_3 :: []))
        refine lv_aload_n hx hb dX9_image_43 rfl (lv_at hl 0 rfl) ?_
        obtain ⟨r_16, er_16, m_r_16, o_r_16⟩ := (show ∃ r, fR f0 a0 2 = some r ∧ r ∈ L0 ∧ Ob f0 r 5 from hg.2.1 _ m_a0 7 2 o_a0)
        refine q_getr (ci := 7) (C := RX9) (T := TX9) (N := 4) hx hb hts (fun w h => List.mem_cons_of_mem _ (mfX90 w h)) hown hK hw m_a0 o_a0 rfl 2 (by decide) (hts _ (List.mem_cons_of_mem _ (mr1 _ (List.mem_of_getElem? (i := 20) rfl)))) (fun _ h => h) rfl er_16 dX9_image_44 ?_
        refine q_call_v hA hK hw (va_runV (As := [.ref r_16]) (rest := []) ⟨hx, hb, hml, hown, hts⟩ (c_X7_copyFrom zo l D cy L0 f0 r_3 r_16 m_r_3 o_r_3 m_r_16 o_r_16 hg _) (cwV 1 hts (gT (inV (mr44 _ (List.mem_of_getElem? (i := 18) rfl)) (mr44 _ (List.mem_of_getElem? (i := 19) rfl)) (mr44 _ (List.mem_of_getElem? (i := 20) rfl)) (mr1 _ (List.mem_of_getElem? (i := 19) rfl)) (mr44 _ (List.mem_of_getElem? (i := 21) rfl)))) rfl rfl rfl (by decide +kernel) ⟨Nat.le_of_ble_eq_true rfl, Nat.le_of_ble_eq_true rfl⟩) (Wd.preV zo hA hZ hw hK m_r_3 o_r_3 rfl) rfl rfl hl.1 rfl (lv_room (Nat.le_of_ble_eq_true rfl)) dX9_image_47 ⟨Nat.le_of_ble_eq_true rfl, Nat.le_of_ble_eq_true rfl⟩) (fun L1 f_18 H locs ex_17 hw => ?_)
        obtain ⟨rfl, hg, hX, ex_17⟩ := ex_17
        have hE := fun a m ci o => hX.1.1 a ci (hE a m ci o)
        have o_a0 := hX.1.1 _ _ o_a0
        refine q_iconst hx hb dX9_image_50 ?_
        exact q_ret_z hx hb hr hlocks hK hAe hw (by omega) (Nat.le_of_ble_eq_true rfl) (Nat.le_of_ble_eq_true rfl) dX9_image_51 (by exact ⟨hs, hg, hE, by omega⟩)
    · refine q_iconst hx hb dX9_image_13 ?_
      exact q_ret_z hx hb hr hlocks hK hAe hw (by omega) (Nat.le_of_ble_eq_true rfl) (Nat.le_of_ble_eq_true rfl) dX9_image_14 (by exact ⟨hs, hg, hE, by omega⟩)
