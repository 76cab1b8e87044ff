set_option maxHeartbeats 4000000 in
set_option maxRecDepth 100000 in
theorem c_X0_copyFrom_f {Z : Zt} (zo : Zok Z) (l : Launch) (D : va_G) (cy : Cy) (L0 : List Nat) (f0 : Nat → va_E) (a0 : Nat) (a1 : Nat) (m_a0 : a0 ∈ L0) (o_a0 : Ob f0 a0 0) (m_a1 : a1 ∈ L0) (o_a1 : Ob f0 a1 0) (hg : GI cy L0 f0) (ne : a1 ≠ a0) : Cv Z l yX0_copyFrom (Cond.code yX0_copyFrom cX0_copyFrom 2 none :: TB) ({ frames := 1, cells := 0, slots := 0, locals := 60 } : Room) 0 0 D (tq cy) [.ref a0, .ref a1] L0 f0 (fun (L1 : List Nat) (f1 : Nat → va_E) => L0 = L1 ∧ GI cy L0 f1 ∧ Ex cy f0 f1 ∧ (Fo (fun y => y = a0) cy f0 f1 ∧ Fr0 f0 f1 ∧ ∀ k : Nat, k < 11 → fV f1 a0 k = fV f0 a1 k)) := by
  refine Cv.enter (cc := cX0_copyFrom) (n := 2) rfl (plainFor_of_name (by decide)) (Nat.le_of_ble_eq_true rfl) ?_
  intro p e s m below meth c ls A hx hb hr hts hown hlocks hnm hml hK hA hAe hw hZ hl
  have hown : s.vm.findClass RX0 = some m.cls := hown
  have hl : lv_has ls 2 [(0, .ref a0), (1, .ref a1)] := hl
  have hN : ZN s := (zo.2.2.2.2 _ _ _ hZ).2
  have hE : Ex cy f0 f0 := Ex.refl cy f0
  have hF := Fo.refl (fun y => y = a0) cy f0
  have hR : Fr0 f0 f0 := fun _ _ => rfl
  have cp := CP.start f0 a0 a1
  refine lv_aload_n hx hb dX0_copyFrom_0 rfl (lv_at hl 0 rfl) ?_
  refine lv_aload_n hx hb dX0_copyFrom_1 rfl (lv_at hl 1 rfl) ?_
  refine q_geti (ci := 0) (C := RX0) (T := TX0) (N := 15) hx hb hts (fun w h => List.mem_cons_of_mem _ (mfX00 w h)) hown hK hw m_a1 o_a1 rfl 0 (by decide) (hts _ (List.mem_cons_of_mem _ (mr40 _ (List.mem_of_getElem? (i := 19) rfl)))) (fun _ h => h) rfl dX0_copyFrom_2 (fun x_1 lx_1 ux_1 ex_1 => ?_)
  have gx := ex_1
  have ob1 := o_a1
  refine q_puti (ci := 0) (C := RX0) (T := TX0) (N := 15) hx hb hts (fun w h => List.mem_cons_of_mem _ (mfX00 w h)) hown hK hw m_a0 o_a0 rfl 0 (by decide) (hts _ (List.mem_cons_of_mem _ (mr40 _ (List.mem_of_getElem? (i := 19) rfl)))) (fun _ h => h) tyX0 tyX0_ok nmX0 rfl (ty := .int) (by decide +kernel) rfl rfl dX0_copyFrom_5 (fun H locs hw => ?_)
  have oo := o_a0
  obtain ⟨f_2, ef_2⟩ : ∃ g : Nat → va_E, g = pU f0 a0 0 (.int (iI x_1)) := ⟨_, rfl⟩
  have hX : Ex cy f0 f_2 := by rw [ef_2]; exact Ex_pU oo rfl rfl (by decide)
  have hg : GI cy L0 f_2 := by rw [ef_2]; exact hg.putI oo rfl ⟨lx_1, ux_1⟩ trivial
  rw [← ef_2] at hw
  have hE := hE.trans hX
  have o_a0 := hX.1.1 _ _ o_a0
  have o_a1 := hX.1.1 _ _ o_a1
  have vf_2 : fI f_2 a0 0 = x_1 := by rw [ef_2]; exact fI_pU_self oo rfl ⟨lx_1, ux_1⟩
  have cp := cp.put ne oo ob1 rfl ef_2 gx
  have hF := hF.pU oo rfl rfl ef_2 rfl
  have hR : Fr0 f0 f_2 := fun y j => Eq.trans (by rw [ef_2]; exact aR_pU oo) (hR y j)
  refine lv_aload_n hx hb dX0_copyFrom_8 rfl (lv_at hl 0 rfl) ?_
  refine lv_aload_n hx hb dX0_copyFrom_9 rfl (lv_at hl 1 rfl) ?_
  refine q_geti (ci := 0) (C := RX0) (T := TX0) (N := 15) hx hb hts (fun w h => List.mem_cons_of_mem _ (mfX00 w h)) hown hK hw m_a1 o_a1 rfl 1 (by decide) (hts _ (List.mem_cons_of_mem _ (mr29 _ (List.mem_of_getElem? (i := 18) rfl)))) (fun _ h => h) rfl dX0_copyFrom_10 (fun x_3 lx_3 ux_3 ex_3 => ?_)
  have gx := ex_3
  have ob1 := o_a1
  refine q_puti (ci := 0) (C := RX0) (T := TX0) (N := 15) hx hb hts (fun w h => List.mem_cons_of_mem _ (mfX00 w h)) hown hK hw m_a0 o_a0 rfl 1 (by decide) (hts _ (List.mem_cons_of_mem _ (mr29 _ (List.mem_of_getElem? (i := 18) rfl)))) (fun _ h => h) tyX0 tyX0_ok nmX0 rfl (ty := .int) (by decide +kernel) rfl rfl dX0_copyFrom_13 (fun H locs hw => ?_)
  have oo := o_a0
  obtain ⟨f_4, ef_4⟩ : ∃ g : Nat → va_E, g = pU f_2 a0 1 (.int (iI x_3)) := ⟨_, rfl⟩
  have hX : Ex cy f_2 f_4 := by rw [ef_4]; exact Ex_pU oo rfl rfl (by decide)
  have hg : GI cy L0 f_4 := by rw [ef_4]; exact hg.putI oo rfl ⟨lx_3, ux_3⟩ trivial
  rw [← ef_4] at hw
  have hE := hE.trans hX
  have o_a0 := hX.1.1 _ _ o_a0
  have o_a1 := hX.1.1 _ _ o_a1
  have vf_4 : fI f_4 a0 1 = x_3 := by rw [ef_4]; exact fI_pU_self oo rfl ⟨lx_3, ux_3⟩
  have cp := cp.put ne oo ob1 rfl ef_4 gx
  have hF := hF.pU oo rfl rfl ef_4 rfl
  have hR : Fr0 f0 f_4 := fun y j => Eq.trans (by rw [ef_4]; exact aR_pU oo) (hR y j)
  refine lv_aload_n hx hb dX0_copyFrom_16 rfl (lv_at hl 0 rfl) ?_
  refine lv_aload_n hx hb dX0_copyFrom_17 rfl (lv_at hl 1 rfl) ?_
  refine q_geti (ci := 0) (C := RX0) (T := TX0) (N := 15) hx hb hts (fun w h => List.mem_cons_of_mem _ (mfX00 w h)) hown hK hw m_a1 o_a1 rfl 2 (by decide) (hts _ (List.mem_cons_of_mem _ (mr35 _ (List.mem_of_getElem? (i := 12) rfl)))) (fun _ h => h) rfl dX0_copyFrom_18 (fun x_5 lx_5 ux_5 ex_5 => ?_)
  have gx := ex_5
  have ob1 := o_a1
  refine q_puti (ci := 0) (C := RX0) (T := TX0) (N := 15) hx hb hts (fun w h => List.mem_cons_of_mem _ (mfX00 w h)) hown hK hw m_a0 o_a0 rfl 2 (by decide) (hts _ (List.mem_cons_of_mem _ (mr35 _ (List.mem_of_getElem? (i := 12) rfl)))) (fun _ h => h) tyX0 tyX0_ok nmX0 rfl (ty := .int) (by decide +kernel) rfl rfl dX0_copyFrom_21 (fun H locs hw => ?_)
  have oo := o_a0
  obtain ⟨f_6, ef_6⟩ : ∃ g : Nat → va_E, g = pU f_4 a0 2 (.int (iI x_5)) := ⟨_, rfl⟩
  have hX : Ex cy f_4 f_6 := by rw [ef_6]; exact Ex_pU oo rfl rfl (by decide)
  have hg : GI cy L0 f_6 := by rw [ef_6]; exact hg.putI oo rfl ⟨lx_5, ux_5⟩ trivial
  rw [← ef_6] at hw
  have hE := hE.trans hX
  have o_a0 := hX.1.1 _ _ o_a0
  have o_a1 := hX.1.1 _ _ o_a1
  have vf_6 : fI f_6 a0 2 = x_5 := by rw [ef_6]; exact fI_pU_self oo rfl ⟨lx_5, ux_5⟩
  have cp := cp.put ne oo ob1 rfl ef_6 gx
  have hF := hF.pU oo rfl rfl ef_6 rfl
  have hR : Fr0 f0 f_6 := fun y j => Eq.trans (by rw [ef_6]; exact aR_pU oo) (hR y j)
  refine lv_aload_n hx hb dX0_copyFrom_24 rfl (lv_at hl 0 rfl) ?_
  refine lv_aload_n hx hb dX0_copyFrom_25 rfl (lv_at hl 1 rfl) ?_
  obtain ⟨r_7, er_7, m_r_7, o_r_7⟩ := (show ∃ r, fR f_6 a1 3 = some r ∧ r ∈ L0 ∧ Rl f_6 r from hg.2.1 _ m_a1 0 3 o_a1)
  refine q_getr (ci := 0) (C := RX0) (T := TX0) (N := 15) hx hb hts (fun w h => List.mem_cons_of_mem _ (mfX00 w h)) hown hK hw m_a1 o_a1 rfl 3 (by decide) (hts _ (List.mem_cons_of_mem _ (mr3 _ (List.mem_of_getElem? (i := 4) rfl)))) (fun _ h => h) rfl er_7 dX0_copyFrom_26 ?_
  have gr := er_7
  refine q_putr (ci := 0) (C := RX0) (T := TX0) (N := 15) hx hb hts (fun w h => List.mem_cons_of_mem _ (mfX00 w h)) hown hK hw m_a0 o_a0 rfl 3 (by decide) (hts _ (List.mem_cons_of_mem _ (mr3 _ (List.mem_of_getElem? (i := 4) rfl)))) (fun _ h => h) tyX0 tyX0_ok nmX0 rfl (ty := tyX0 3) (by decide +kernel) rfl rfl rfl dX0_copyFrom_29 (fun H locs hw => ?_)
  have oo := o_a0
  obtain ⟨f_8, ef_8⟩ : ∃ g : Nat → va_E, g = pU f_6 a0 3 (.ref r_7) := ⟨_, rfl⟩
  have hX : Ex cy f_6 f_8 := by rw [ef_8]; exact Ex_pU oo rfl rfl (by decide)
  have hg : GI cy L0 f_8 := by rw [ef_8]; exact hg.putR oo rfl ⟨r_7, rfl, m_r_7, o_r_7⟩
  rw [← ef_8] at hw
  have hE := hE.trans hX
  have o_a0 := hX.1.1 _ _ o_a0
  have o_a1 := hX.1.1 _ _ o_a1
  have cp := cp.putR ne oo rfl ef_8 gr
  have hF := hF.pU oo rfl rfl ef_8 rfl
  have hR : Fr0 f0 f_8 := fun y j => Eq.trans (by rw [ef_8]; exact aR_pU oo) (hR y j)
  refine lv_aload_n hx hb dX0_copyFrom_32 rfl (lv_at hl 0 rfl) ?_
  refine lv_aload_n hx hb dX0_copyFrom_33 rfl (lv_at hl 1 rfl) ?_
  refine q_geti (ci := 0) (C := RX0) (T := TX0) (N := 15) hx hb hts (fun w h => List.mem_cons_of_mem _ (mfX00 w h)) hown hK hw m_a1 o_a1 rfl 4 (by decide) (hts _ (List.mem_cons_of_mem _ (mr14 _ (List.mem_of_getElem? (i := 7) rfl)))) (fun _ h => h) rfl dX0_copyFrom_34 (fun x_9 lx_9 ux_9 ex_9 => ?_)
  have gx := ex_9
  have ob1 := o_a1
  refine q_puti (ci := 0) (C := RX0) (T := TX0) (N := 15) hx hb hts (fun w h => List.mem_cons_of_mem _ (mfX00 w h)) hown hK hw m_a0 o_a0 rfl 4 (by decide) (hts _ (List.mem_cons_of_mem _ (mr14 _ (List.mem_of_getElem? (i := 7) rfl)))) (fun _ h => h) tyX0 tyX0_ok nmX0 rfl (ty := .int) (by decide +kernel) rfl rfl dX0_copyFrom_37 (fun H locs hw => ?_)
  have oo := o_a0
  obtain ⟨f_10, ef_10⟩ : ∃ g : Nat → va_E, g = pU f_8 a0 4 (.int (iI x_9)) := ⟨_, rfl⟩
  have hX : Ex cy f_8 f_10 := by rw [ef_10]; exact Ex_pU oo rfl rfl (by decide)
  have hg : GI cy L0 f_10 := by rw [ef_10]; exact hg.putI oo rfl ⟨lx_9, ux_9⟩ trivial
  rw [← ef_10] at hw
  have hE := hE.trans hX
  have o_a0 := hX.1.1 _ _ o_a0
  have o_a1 := hX.1.1 _ _ o_a1
  have vf_10 : fI f_10 a0 4 = x_9 := by rw [ef_10]; exact fI_pU_self oo rfl ⟨lx_9, ux_9⟩
  have cp := cp.put ne oo ob1 rfl ef_10 gx
  have hF := hF.pU oo rfl rfl ef_10 rfl
  have hR : Fr0 f0 f_10 := fun y j => Eq.trans (by rw [ef_10]; exact aR_pU oo) (hR y j)
  refine lv_aload_n hx hb dX0_copyFrom_40 rfl (lv_at hl 0 rfl) ?_
  refine lv_aload_n hx hb dX0_copyFrom_41 rfl (lv_at hl 1 rfl) ?_
  refine q_geti (ci := 0) (C := RX0) (T := TX0) (N := 15) hx hb hts (fun w h => List.mem_cons_of_mem _ (mfX00 w h)) hown hK hw m_a1 o_a1 rfl 5 (by decide) (hts _ (List.mem_cons_of_mem _ (mr14 _ (List.mem_of_getElem? (i := 8) rfl)))) (fun _ h => h) rfl dX0_copyFrom_42 (fun x_11 lx_11 ux_11 ex_11 => ?_)
  have gx := ex_11
  have ob1 := o_a1
  refine q_puti (ci := 0) (C := RX0) (T := TX0) (N := 15) hx hb hts (fun w h => List.mem_cons_of_mem _ (mfX00 w h)) hown hK hw m_a0 o_a0 rfl 5 (by decide) (hts _ (List.mem_cons_of_mem _ (mr14 _ (List.mem_of_getElem? (i := 8) rfl)))) (fun _ h => h) tyX0 tyX0_ok nmX0 rfl (ty := .int) (by decide +kernel) rfl rfl dX0_copyFrom_45 (fun H locs hw => ?_)
  have oo := o_a0
  obtain ⟨f_12, ef_12⟩ : ∃ g : Nat → va_E, g = pU f_10 a0 5 (.int (iI x_11)) := ⟨_, rfl⟩
  have hX : Ex cy f_10 f_12 := by rw [ef_12]; exact Ex_pU oo rfl rfl (by decide)
  have hg : GI cy L0 f_12 := by rw [ef_12]; exact hg.putI oo rfl ⟨lx_11, ux_11⟩ trivial
  rw [← ef_12] at hw
  have hE := hE.trans hX
  have o_a0 := hX.1.1 _ _ o_a0
  have o_a1 := hX.1.1 _ _ o_a1
  have vf_12 : fI f_12 a0 5 = x_11 := by rw [ef_12]; exact fI_pU_self oo rfl ⟨lx_11, ux_11⟩
  have cp := cp.put ne oo ob1 rfl ef_12 gx
  have hF := hF.pU oo rfl rfl ef_12 rfl
  have hR : Fr0 f0 f_12 := fun y j => Eq.trans (by rw [ef_12]; exact aR_pU oo) (hR y j)
  refine lv_aload_n hx hb dX0_copyFrom_48 rfl (lv_at hl 0 rfl) ?_
  refine lv_aload_n hx hb dX0_copyFrom_49 rfl (lv_at hl 1 rfl) ?_
  refine q_geti (ci := 0) (C := RX0) (T := TX0) (N := 15) hx hb hts (fun w h => List.mem_cons_of_mem _ (mfX00 w h)) hown hK hw m_a1 o_a1 rfl 6 (by decide) (hts _ (List.mem_cons_of_mem _ (mr14 _ (List.mem_of_getElem? (i := 6) rfl)))) (fun _ h => h) rfl dX0_copyFrom_50 (fun x_13 lx_13 ux_13 ex_13 => ?_)
  have gx := ex_13
  have ob1 := o_a1
  refine q_puti (ci := 0) (C := RX0) (T := TX0) (N := 15) hx hb hts (fun w h => List.mem_cons_of_mem _ (mfX00 w h)) hown hK hw m_a0 o_a0 rfl 6 (by decide) (hts _ (List.mem_cons_of_mem _ (mr14 _ (List.mem_of_getElem? (i := 6) rfl)))) (fun _ h => h) tyX0 tyX0_ok nmX0 rfl (ty := .int) (by decide +kernel) rfl rfl dX0_copyFrom_53 (fun H locs hw => ?_)
  have oo := o_a0
  obtain ⟨f_14, ef_14⟩ : ∃ g : Nat → va_E, g = pU f_12 a0 6 (.int (iI x_13)) := ⟨_, rfl⟩
  have hX : Ex cy f_12 f_14 := by rw [ef_14]; exact Ex_pU oo rfl rfl (by decide)
  have hg : GI cy L0 f_14 := by rw [ef_14]; exact hg.putI oo rfl ⟨lx_13, ux_13⟩ trivial
  rw [← ef_14] at hw
  have hE := hE.trans hX
  have o_a0 := hX.1.1 _ _ o_a0
  have o_a1 := hX.1.1 _ _ o_a1
  have vf_14 : fI f_14 a0 6 = x_13 := by rw [ef_14]; exact fI_pU_self oo rfl ⟨lx_13, ux_13⟩
  have cp := cp.put ne oo ob1 rfl ef_14 gx
  have hF := hF.pU oo rfl rfl ef_14 rfl
  have hR : Fr0 f0 f_14 := fun y j => Eq.trans (by rw [ef_14]; exact aR_pU oo) (hR y j)
  refine lv_aload_n hx hb dX0_copyFrom_56 rfl (lv_at hl 0 rfl) ?_
  refine lv_aload_n hx hb dX0_copyFrom_57 rfl (lv_at hl 1 rfl) ?_
  refine q_geti (ci := 0) (C := RX0) (T := TX0) (N := 15) hx hb hts (fun w h => List.mem_cons_of_mem _ (mfX00 w h)) hown hK hw m_a1 o_a1 rfl 7 (by decide) (hts _ (List.mem_cons_of_mem _ (mr14 _ (List.mem_of_getElem? (i := 20) rfl)))) (fun _ h => h) rfl dX0_copyFrom_58 (fun x_15 lx_15 ux_15 ex_15 => ?_)
  have gx := ex_15
  have ob1 := o_a1
  refine q_puti (ci := 0) (C := RX0) (T := TX0) (N := 15) hx hb hts (fun w h => List.mem_cons_of_mem _ (mfX00 w h)) hown hK hw m_a0 o_a0 rfl 7 (by decide) (hts _ (List.mem_cons_of_mem _ (mr14 _ (List.mem_of_getElem? (i := 20) rfl)))) (fun _ h => h) tyX0 tyX0_ok nmX0 rfl (ty := .int) (by decide +kernel) rfl rfl dX0_copyFrom_61 (fun H locs hw => ?_)
  have oo := o_a0
  obtain ⟨f_16, ef_16⟩ : ∃ g : Nat → va_E, g = pU f_14 a0 7 (.int (iI x_15)) := ⟨_, rfl⟩
  have hX : Ex cy f_14 f_16 := by rw [ef_16]; exact Ex_pU oo rfl rfl (by decide)
  have hg : GI cy L0 f_16 := by rw [ef_16]; exact hg.putI oo rfl ⟨lx_15, ux_15⟩ trivial
  rw [← ef_16] at hw
  have hE := hE.trans hX
  have o_a0 := hX.1.1 _ _ o_a0
  have o_a1 := hX.1.1 _ _ o_a1
  have vf_16 : fI f_16 a0 7 = x_15 := by rw [ef_16]; exact fI_pU_self oo rfl ⟨lx_15, ux_15⟩
  have cp := cp.put ne oo ob1 rfl ef_16 gx
  have hF := hF.pU oo rfl rfl ef_16 rfl
  have hR : Fr0 f0 f_16 := fun y j => Eq.trans (by rw [ef_16]; exact aR_pU oo) (hR y j)
  refine lv_aload_n hx hb dX0_copyFrom_64 rfl (lv_at hl 0 rfl) ?_
  refine lv_aload_n hx hb dX0_copyFrom_65 rfl (lv_at hl 1 rfl) ?_
  refine q_geti (ci := 0) (C := RX0) (T := TX0) (N := 15) hx hb hts (fun w h => List.mem_cons_of_mem _ (mfX00 w h)) hown hK hw m_a1 o_a1 rfl 8 (by decide) (hts _ (List.mem_cons_of_mem _ (mr14 _ (List.mem_of_getElem? (i := 21) rfl)))) (fun _ h => h) rfl dX0_copyFrom_66 (fun x_17 lx_17 ux_17 ex_17 => ?_)
  have gx := ex_17
  have ob1 := o_a1
  refine q_puti (ci := 0) (C := RX0) (T := TX0) (N := 15) hx hb hts (fun w h => List.mem_cons_of_mem _ (mfX00 w h)) hown hK hw m_a0 o_a0 rfl 8 (by decide) (hts _ (List.mem_cons_of_mem _ (mr14 _ (List.mem_of_getElem? (i := 21) rfl)))) (fun _ h => h) tyX0 tyX0_ok nmX0 rfl (ty := .int) (by decide +kernel) rfl rfl dX0_copyFrom_69 (fun H locs hw => ?_)
  have oo := o_a0
  obtain ⟨f_18, ef_18⟩ : ∃ g : Nat → va_E, g = pU f_16 a0 8 (.int (iI x_17)) := ⟨_, rfl⟩
  have hX : Ex cy f_16 f_18 := by rw [ef_18]; exact Ex_pU oo rfl rfl (by decide)
  have hg : GI cy L0 f_18 := by rw [ef_18]; exact hg.putI oo rfl ⟨lx_17, ux_17⟩ trivial
  rw [← ef_18] at hw
  have hE := hE.trans hX
  have o_a0 := hX.1.1 _ _ o_a0
  have o_a1 := hX.1.1 _ _ o_a1
  have vf_18 : fI f_18 a0 8 = x_17 := by rw [ef_18]; exact fI_pU_self oo rfl ⟨lx_17, ux_17⟩
  have cp := cp.put ne oo ob1 rfl ef_18 gx
  have hF := hF.pU oo rfl rfl ef_18 rfl
  have hR : Fr0 f0 f_18 := fun y j => Eq.trans (by rw [ef_18]; exact aR_pU oo) (hR y j)
  refine lv_aload_n hx hb dX0_copyFrom_72 rfl (lv_at hl 0 rfl) ?_
  refine lv_aload_n hx hb dX0_copyFrom_73 rfl (lv_at hl 1 rfl) ?_
  refine q_geti (ci := 0) (C := RX0) (T := TX0) (N := 15) hx hb hts (fun w h => List.mem_cons_of_mem _ (mfX00 w h)) hown hK hw m_a1 o_a1 rfl 9 (by decide) (hts _ (List.mem_cons_of_mem _ (mr14 _ (List.mem_of_getElem? (i := 22) rfl)))) (fun _ h => h) rfl dX0_copyFrom_74 (fun x_19 lx_19 ux_19 ex_19 => ?_)
  have gx := ex_19
  have ob1 := o_a1
  refine q_puti (ci := 0) (C := RX0) (T := TX0) (N := 15) hx hb hts (fun w h => List.mem_cons_of_mem _ (mfX00 w h)) hown hK hw m_a0 o_a0 rfl 9 (by decide) (hts _ (List.mem_cons_of_mem _ (mr14 _ (List.mem_of_getElem? (i := 22) rfl)))) (fun _ h => h) tyX0 tyX0_ok nmX0 rfl (ty := .int) (by decide +kernel) rfl rfl dX0_copyFrom_77 (fun H locs hw => ?_)
  have oo := o_a0
  obtain ⟨f_20, ef_20⟩ : ∃ g : Nat → va_E, g = pU f_18 a0 9 (.int (iI x_19)) := ⟨_, rfl⟩
  have hX : Ex cy f_18 f_20 := by rw [ef_20]; exact Ex_pU oo rfl rfl (by decide)
  have hg : GI cy L0 f_20 := by rw [ef_20]; exact hg.putI oo rfl ⟨lx_19, ux_19⟩ trivial
  rw [← ef_20] at hw
  have hE := hE.trans hX
  have o_a0 := hX.1.1 _ _ o_a0
  have o_a1 := hX.1.1 _ _ o_a1
  have vf_20 : fI f_20 a0 9 = x_19 := by rw [ef_20]; exact fI_pU_self oo rfl ⟨lx_19, ux_19⟩
  have cp := cp.put ne oo ob1 rfl ef_20 gx
  have hF := hF.pU oo rfl rfl ef_20 rfl
  have hR : Fr0 f0 f_20 := fun y j => Eq.trans (by rw [ef_20]; exact aR_pU oo) (hR y j)
  refine lv_aload_n hx hb dX0_copyFrom_80 rfl (lv_at hl 0 rfl) ?_
  refine lv_aload_n hx hb dX0_copyFrom_81 rfl (lv_at hl 1 rfl) ?_
  refine q_geti (ci := 0) (C := RX0) (T := TX0) (N := 15) hx hb hts (fun w h => List.mem_cons_of_mem _ (mfX00 w h)) hown hK hw m_a1 o_a1 rfl 10 (by decide) (hts _ (List.mem_cons_of_mem _ (mr14 _ (List.mem_of_getElem? (i := 9) rfl)))) (fun _ h => h) rfl dX0_copyFrom_82 (fun x_21 lx_21 ux_21 ex_21 => ?_)
  have bx_21 : 0 ≤ x_21 ∧ x_21 ≤ 16 := by rw [ex_21]; exact hg.1 _ m_a1 0 10 o_a1
  have gx := ex_21
  have ob1 := o_a1
  refine q_puti (ci := 0) (C := RX0) (T := TX0) (N := 15) hx hb hts (fun w h => List.mem_cons_of_mem _ (mfX00 w h)) hown hK hw m_a0 o_a0 rfl 10 (by decide) (hts _ (List.mem_cons_of_mem _ (mr14 _ (List.mem_of_getElem? (i := 9) rfl)))) (fun _ h => h) tyX0 tyX0_ok nmX0 rfl (ty := .int) (by decide +kernel) rfl rfl dX0_copyFrom_85 (fun H locs hw => ?_)
  have oo := o_a0
  obtain ⟨f_22, ef_22⟩ : ∃ g : Nat → va_E, g = pU f_20 a0 10 (.int (iI x_21)) := ⟨_, rfl⟩
  have hX : Ex cy f_20 f_22 := by rw [ef_22]; exact Ex_pU oo rfl rfl (by decide)
  have hg : GI cy L0 f_22 := by rw [ef_22]; exact hg.putI oo rfl ⟨lx_21, ux_21⟩ (by show 0 ≤ x_21 ∧ x_21 ≤ 16; omega)
  rw [← ef_22] at hw
  have hE := hE.trans hX
  have o_a0 := hX.1.1 _ _ o_a0
  have o_a1 := hX.1.1 _ _ o_a1
  have vf_22 : fI f_22 a0 10 = x_21 := by rw [ef_22]; exact fI_pU_self oo rfl ⟨lx_21, ux_21⟩
  have cp := cp.put ne oo ob1 rfl ef_22 gx
  have hF := hF.pU oo rfl rfl ef_22 rfl
  have hR : Fr0 f0 f_22 := fun y j => Eq.trans (by rw [ef_22]; exact aR_pU oo) (hR y j)
  refine lv_aload_n hx hb dX0_copyFrom_88 rfl (lv_at hl 1 rfl) ?_
  obtain ⟨r_23, er_23, m_r_23, o_r_23⟩ := (show ∃ r, fR f_22 a1 11 = some r ∧ r ∈ L0 ∧ ArI f_22 r cy.2.1 16 from hg.2.1 _ m_a1 0 11 o_a1)
  refine q_getr (ci := 0) (C := RX0) (T := TX0) (N := 15) hx hb hts (fun w h => List.mem_cons_of_mem _ (mfX00 w h)) hown hK hw m_a1 o_a1 rfl 11 (by decide) (hts _ (List.mem_cons_of_mem _ (mr3 _ (List.mem_of_getElem? (i := 2) rfl)))) (fun _ h => h) rfl er_23 dX0_copyFrom_89 ?_
  refine q_iconst hx hb dX0_copyFrom_92 ?_
  refine lv_aload_n hx hb dX0_copyFrom_93 rfl (lv_at hl 0 rfl) ?_
  obtain ⟨r_24, er_24, m_r_24, o_r_24⟩ := (show ∃ r, fR f_22 a0 11 = some r ∧ r ∈ L0 ∧ ArI f_22 r cy.2.1 16 from hg.2.1 _ m_a0 0 11 o_a0)
  refine q_getr (ci := 0) (C := RX0) (T := TX0) (N := 15) hx hb hts (fun w h => List.mem_cons_of_mem _ (mfX00 w h)) hown hK hw m_a0 o_a0 rfl 11 (by decide) (hts _ (List.mem_cons_of_mem _ (mr3 _ (List.mem_of_getElem? (i := 2) rfl)))) (fun _ h => h) rfl er_24 dX0_copyFrom_94 ?_
  refine q_iconst hx hb dX0_copyFrom_97 ?_
  refine q_bipush hx hb dX0_copyFrom_98 rfl ?_
  refine q_copy (n := 16) hx hb (hml.trans hl.1.symm) hown (hts _ (List.mem_cons_of_mem _ (mr40 _ (List.mem_of_getElem? (i := 20) rfl)))) (hts _ (List.mem_cons_of_mem _ (mr40 _ (List.mem_of_getElem? (i := 21) rfl)))) (hts _ (List.mem_cons_of_mem _ (mr40 _ (List.mem_of_getElem? (i := 22) rfl)))) (hts _ (List.mem_cons_of_mem _ (mr40 _ (List.mem_of_getElem? (i := 23) rfl)))) hK hw 1 (by decide) m_r_23 o_r_23 m_r_24 o_r_24 rfl (by decide) (by decide) (Nat.le_of_ble_eq_true rfl) (Nat.le_of_ble_eq_true rfl) dX0_copyFrom_100 (fun gg H locs hw => ?_)
  have oo := o_r_24
  obtain ⟨f_25, ef_25⟩ : ∃ g : Nat → va_E, g = aX f_22 r_24 gg := ⟨_, rfl⟩
  have hX : Ex cy f_22 f_25 := by rw [ef_25]; exact Ex_aX oo
  have hg : GI cy L0 f_25 := by rw [ef_25]; exact hg.putX oo
  rw [← ef_25] at hw
  have hE := hE.trans hX
  have o_a0 := hX.1.1 _ _ o_a0
  have o_a1 := hX.1.1 _ _ o_a1
  have cp := cp.aX oo ef_25
  have hF := hF.aX oo ef_25
  have hR : Fr0 f0 f_25 := fun y j => Eq.trans (by rw [ef_25]; exact aR_aX oo) (hR y j)
  refine lv_aload_n hx hb dX0_copyFrom_103 rfl (lv_at hl 1 rfl) ?_
  obtain ⟨r_26, er_26, m_r_26, o_r_26⟩ := (show ∃ r, fR f_25 a1 12 = some r ∧ r ∈ L0 ∧ ArI f_25 r cy.2.1 16 from hg.2.1 _ m_a1 0 12 o_a1)
  refine q_getr (ci := 0) (C := RX0) (T := TX0) (N := 15) hx hb hts (fun w h => List.mem_cons_of_mem _ (mfX00 w h)) hown hK hw m_a1 o_a1 rfl 12 (by decide) (hts _ (List.mem_cons_of_mem _ (mr3 _ (List.mem_of_getElem? (i := 3) rfl)))) (fun _ h => h) rfl er_26 dX0_copyFrom_104 ?_
  refine q_iconst hx hb dX0_copyFrom_107 ?_
  refine lv_aload_n hx hb dX0_copyFrom_108 rfl (lv_at hl 0 rfl) ?_
  obtain ⟨r_27, er_27, m_r_27, o_r_27⟩ := (show ∃ r, fR f_25 a0 12 = some r ∧ r ∈ L0 ∧ ArI f_25 r cy.2.1 16 from hg.2.1 _ m_a0 0 12 o_a0)
  refine q_getr (ci := 0) (C := RX0) (T := TX0) (N := 15) hx hb hts (fun w h => List.mem_cons_of_mem _ (mfX00 w h)) hown hK hw m_a0 o_a0 rfl 12 (by decide) (hts _ (List.mem_cons_of_mem _ (mr3 _ (List.mem_of_getElem? (i := 3) rfl)))) (fun _ h => h) rfl er_27 dX0_copyFrom_109 ?_
  refine q_iconst hx hb dX0_copyFrom_112 ?_
  refine q_bipush hx hb dX0_copyFrom_113 rfl ?_
  refine q_copy (n := 16) hx hb (hml.trans hl.1.symm) hown (hts _ (List.mem_cons_of_mem _ (mr40 _ (List.mem_of_getElem? (i := 20) rfl)))) (hts _ (List.mem_cons_of_mem _ (mr40 _ (List.mem_of_getElem? (i := 21) rfl)))) (hts _ (List.mem_cons_of_mem _ (mr40 _ (List.mem_of_getElem? (i := 22) rfl)))) (hts _ (List.mem_cons_of_mem _ (mr40 _ (List.mem_of_getElem? (i := 23) rfl)))) hK hw 1 (by decide) m_r_26 o_r_26 m_r_27 o_r_27 rfl (by decide) (by decide) (Nat.le_of_ble_eq_true rfl) (Nat.le_of_ble_eq_true rfl) dX0_copyFrom_115 (fun gg H locs hw => ?_)
  have oo := o_r_27
  obtain ⟨f_28, ef_28⟩ : ∃ g : Nat → va_E, g = aX f_25 r_27 gg := ⟨_, rfl⟩
  have hX : Ex cy f_25 f_28 := by rw [ef_28]; exact Ex_aX oo
  have hg : GI cy L0 f_28 := by rw [ef_28]; exact hg.putX oo
  rw [← ef_28] at hw
  have hE := hE.trans hX
  have o_a0 := hX.1.1 _ _ o_a0
  have o_a1 := hX.1.1 _ _ o_a1
  have cp := cp.aX oo ef_28
  have hF := hF.aX oo ef_28
  have hR : Fr0 f0 f_28 := fun y j => Eq.trans (by rw [ef_28]; exact aR_aX oo) (hR y j)
  exact q_ret_v hx hb hr hlocks hK hAe hw (Nat.le_of_ble_eq_true rfl) (Nat.le_of_ble_eq_true rfl) dX0_copyFrom_118 (by exact ⟨rfl, hg, hE, hF, hR, cp.1⟩)
set_option maxHeartbeats 4000000 in
set_option maxRecDepth 100000 in
theorem c_X0_settle_g {Z : Zt} (zo : Zok Z) (l : Launch) (D : va_G) (cy : Cy) (L0 : List Nat) (f0 : Nat → va_E) (a0 : Nat) (m_a0 : a0 ∈ L0) (o_a0 : Ob f0 a0 0) (hg : GI cy L0 f0) (h0 : Int → Int) (q0 : Int) (rw0 : RW f0 a0 h0 q0) : Cv Z l yX0_settle (Cond.code yX0_settle cX0_settle 2 none :: TB) ({ frames := 4, cells := 0, slots := 0, locals := 92 } : Room) 0 0 D (tq cy) [.ref a0] L0 f0 (fun (L1 : List Nat) (f1 : Nat → va_E) => L0 = L1 ∧ GI cy L0 f1 ∧ Ex cy f0 f1 ∧ (SeT f0 f1 a0 ∧ RB f1 a0 h0 q0)) := by
  obtain ⟨⟨w0, w1, w2, w4, w5, w6⟩, ⟨r0, er, rk⟩, gb⟩ := id rw0
  refine Cv.post (c_X0_settle_f zo l D cy L0 f0 a0 m_a0 o_a0 hg r0 er _ _ _ _ _ rk (by rw [w4]; exact gb.2.2.1) (by rw [w5, w4]; exact gb.2.2.2.1) (by rw [w6]; exact gb.2.2.2.2.1) (by rw [w6]; exact gb.2.2.2.2.2)) ?_
  rintro L1 f1 ⟨e1, e2, e3, st, bd, tt⟩
  rw [w4, w5, w6] at bd tt
  exact ⟨e1, e2, e3, st, rw0.settled st o_a0 bd tt⟩
set_option maxHeartbeats 4000000 in
set_option maxRecDepth 100000 in
theorem c_X0_cutInto_f {Z : Zt} (zo : Zok Z) (l : Launch) (D : va_G) (cy : Cy) (L0 : List Nat) (f0 : Nat → va_E) (a0 : Nat) (a1 : Nat) (x2 : Int) (lx2 : -2147483648 ≤ x2) (ux2 : x2 ≤ 2147483647) (m_a0 : a0 ∈ L0) (o_a0 : Ob f0 a0 0) (m_a1 : a1 ∈ L0) (o_a1 : Ob f0 a1 0) (hg : GI cy L0 f0) (ne : a1 ≠ a0) (g : Int → Int) (p0 : Int) (rb : RB f0 a0 g p0) (k1 : ∃ d : Int, d < x2 ∧ KG g p0 d) (k2 : ∃ d : Int, x2 ≤ d ∧ KG g p0 d) : Cv Z l yX0_cutInto (Cond.code yX0_cutInto cX0_cutInto 4 none :: TB) ({ frames := 5, cells := 0, slots := 0, locals := 113 } : Room) 0 0 D (tq cy) [.ref a0, .ref a1, .int (iI x2)] L0 f0 (fun (L1 : List Nat) (f1 : Nat → va_E) => L0 = L1 ∧ GI cy L0 f1 ∧ Ex cy f0 f1 ∧ (Fo (fun y => y = a0 ∨ y = a1) cy f0 f1 ∧ Fr0 f0 f1 ∧ RB f1 a0 (HWd g p0 x2) p0 ∧ RB f1 a1 (TWd g p0 x2) p0)) := by
  refine Cv.enter (cc := cX0_cutInto) (n := 4) rfl (plainFor_of_name (by decide)) (Nat.le_of_ble_eq_true rfl) ?_
  intro p e s m below meth c ls A hx hb hr hts hown hlocks hnm hml hK hA hAe hw hZ hl
  have hown : s.vm.findClass RX0 = some m.cls := hown
  have hl : lv_has ls 4 [(0, .ref a0), (1, .ref a1), (2, .int (iI x2))] := hl
  have hN : ZN s := (zo.2.2.2.2 _ _ _ hZ).2
  have hE : Ex cy f0 f0 := Ex.refl cy f0
  have kc := KG.cut rb.2.1 rb.1.2.2 k1 k2
  have cpt := cn_pos (p := KG g p0) (a := 0) (b := 36525)
  have u9 : updW g (p0 + 10) x2 (p0 + 9) = g (p0 + 9) := updW_n (by omega)
  have gb := rb.1.2.2
  have gb4 := gb.2.2.2.1
  have gb5 := gb.2.2.2.2.1
  have ob1 := o_a1
  have s0 : 0 ≤ g (p0 + 5) ∧ g (p0 + 5) ≤ 36524 := by obtain ⟨_, _, q⟩ := rb.rule; exact q.st
  refine lv_aload_n hx hb dX0_cutInto_0 rfl (lv_at hl 1 rfl) ?_
  refine lv_aload_n hx hb dX0_cutInto_1 rfl (lv_at hl 0 rfl) ?_
  refine q_call_v hA hK hw (va_runV (As := [.ref a0]) (rest := []) ⟨hx, hb, hml, hown, hts⟩ (c_X0_copyFrom_f zo l D cy L0 f0 a1 a0 m_a1 o_a1 m_a0 o_a0 hg ne.symm _) (cwV 1 hts (gT (inV (mr40 _ (List.mem_of_getElem? (i := 15) rfl)) (mr40 _ (List.mem_of_getElem? (i := 16) rfl)) (mr40 _ (List.mem_of_getElem? (i := 17) rfl)) (mr2 _ (List.mem_of_getElem? (i := 9) rfl)) (mr40 _ (List.mem_of_getElem? (i := 18) rfl)))) rfl rfl rfl (by decide +kernel) ⟨Nat.le_of_ble_eq_true rfl, Nat.le_of_ble_eq_true rfl⟩) (Wd.preV zo hA hZ hw hK m_a1 o_a1 rfl) rfl rfl hl.1 rfl (lv_room (Nat.le_of_ble_eq_true rfl)) dX0_cutInto_2 ⟨Nat.le_of_ble_eq_true rfl, Nat.le_of_ble_eq_true rfl⟩) (fun L1 f_2 H locs ex_1 hw => ?_)
  obtain ⟨rfl, hg, hX, ex_1⟩ := ex_1
  have hE := hE.trans hX
  have o_a0 := hX.1.1 _ _ o_a0
  have o_a1 := hX.1.1 _ _ o_a1
  obtain ⟨hF2, hR, c2⟩ := ex_1
  have hF : Fo (fun y => y = a0 ∨ y = a1) cy f0 f_2 := hF2.mono (fun y h => Or.inr h)
  have rt0 : RB f_2 a1 g p0 := rb.copy c2 (fun q k n s v w h => h.fo hF2 (nrl ob1))
  have ra0 : RB f_2 a0 g p0 := rb.fo hF2 (fun z => ne z.symm) (nrl ob1)
  have rt := rt0.1
  have ra := ra0.1
  refine lv_aload_n hx hb dX0_cutInto_5 rfl (lv_at hl 1 rfl) ?_
  refine lv_iload_n hx hb dX0_cutInto_6 rfl (lv_at hl 2 rfl) ?_
  refine q_puti (ci := 0) (C := RX0) (T := TX0) (N := 15) hx hb hts (fun w h => List.mem_cons_of_mem _ (mfX00 w h)) hown hK hw m_a1 o_a1 rfl 6 (by decide) (hts _ (List.mem_cons_of_mem _ (mr14 _ (List.mem_of_getElem? (i := 6) rfl)))) (fun _ h => h) tyX0 tyX0_ok nmX0 rfl (ty := .int) (by decide +kernel) rfl rfl dX0_cutInto_7 (fun H locs hw => ?_)
  have oo := o_a1
  obtain ⟨f_3, ef_3⟩ : ∃ g : Nat → va_E, g = pU f_2 a1 6 (.int (iI x2)) := ⟨_, rfl⟩
  have hX : Ex cy f_2 f_3 := by rw [ef_3]; exact Ex_pU oo rfl rfl (by decide)
  have hg : GI cy L0 f_3 := by rw [ef_3]; exact hg.putI oo rfl ⟨lx2, ux2⟩ trivial
  rw [← ef_3] at hw
  have hE := hE.trans hX
  have o_a0 := hX.1.1 _ _ o_a0
  have o_a1 := hX.1.1 _ _ o_a1
  have vf_3 : fI f_3 a1 6 = x2 := by rw [ef_3]; exact fI_pU_self oo rfl ⟨lx2, ux2⟩
  have hF := hF.pU oo rfl rfl ef_3 (Or.inr rfl)
  have hR : Fr0 f0 f_3 := fun y j => Eq.trans (by rw [ef_3]; exact aR_pU oo) (hR y j)
  have rb2 : RB f_3 a0 g p0 := ra0.other oo rfl rfl ef_3 ne.symm
  have ra := ra.other oo rfl rfl ef_3 ne.symm
  have w9 := ra.1.2.2.2.2.1
  have rt := rt.put (off := 10) (x' := x2) oo rfl ⟨lx2, ux2⟩ ef_3 (by omega) rfl (rt.2.2.upd10 (by omega) (by omega))
  refine lv_aload_n hx hb dX0_cutInto_10 rfl (lv_at hl 0 rfl) ?_
  refine q_geti (ci := 0) (C := RX0) (T := TX0) (N := 15) hx hb hts (fun w h => List.mem_cons_of_mem _ (mfX00 w h)) hown hK hw m_a0 o_a0 rfl 5 (by decide) (hts _ (List.mem_cons_of_mem _ (mr14 _ (List.mem_of_getElem? (i := 8) rfl)))) (fun _ h => h) rfl dX0_cutInto_11 (fun x_4 lx_4 ux_4 ex_4 => ?_)
  refine q_iconst hx hb dX0_cutInto_14 ?_
  have J53 : ∀ (L : List Nat) (fw53 : Nat → va_E) (hg : GI cy L0 fw53) (hE : Ex cy f0 fw53) (o_a0 : Ob fw53 a0 0) (o_a1 : Ob fw53 a1 0) (hF : Fo (fun y => y = a0 ∨ y = a1) cy f0 fw53) (hR : Fr0 f0 fw53) (ra : RW fw53 a0 (HWd g p0 x2) p0) (rt : RW fw53 a1 (TWd g p0 x2) p0) (H : Heap) (locs : List Loc) (ls : Array Slot) (hw : Wd D A s.heap L0 fw53 H locs) (hl : lv_has ls 4 [(0, .ref a0), (1, .ref a1), (2, .int (iI x2))]), W p l e ({ frames := 5, cells := 0, slots := 0, locals := 113 } : Room) s m ([.ref a0, .ref a1, .int (iI x2)] : List Value).toArray below meth c H locs (0 + 0) (0 + 0) (MQ below (Qv D (tq cy) L0 f0 s.heap.size (fun (L1 : List Nat) (f1 : Nat → va_E) => L0 = L1 ∧ GI cy L0 f1 ∧ Ex cy f0 f1 ∧ (Fo (fun y => y = a0 ∨ y = a1) cy f0 f1 ∧ Fr0 f0 f1 ∧ RB f1 a0 (HWd g p0 x2) p0 ∧ RB f1 a1 (TWd g p0 x2) p0))) ([.ref a0, .ref a1, .int (iI x2)] : List Value).toArray s 0 0 A) (F0 m 53 ls []) := by
    intro L fw53 hg hE o_a0 o_a1 hF hR ra rt H locs ls hw hl
    refine q_bipush hx hb dX0_cutInto_53 rfl ?_
    refine lv_istore_n (lv' := [(3, .int (iI 15)), (0, .ref a0), (1, .ref a1), (2, .int (iI x2))]) hx hb dX0_cutInto_55 rfl hl (by decide) rfl (fun ls hl => ?_)
    have J56 : ∀ (n56 : Nat) (y3_56 : Int) (ly3_56 : -2147483648 ≤ y3_56) (uy3_56 : y3_56 ≤ 2147483647) (L : List Nat) (fw56 : Nat → va_E) (hg : GI cy L0 fw56) (hE : Ex cy f0 fw56) (o_a0 : Ob fw56 a0 0) (o_a1 : Ob fw56 a1 0) (i1 : -1 ≤ y3_56) (i2 : y3_56 ≤ 15) (hF : Fo (fun y => y = a0 ∨ y = a1) cy f0 fw56) (hR : Fr0 f0 fw56) (ra : RW fw56 a0 (HWd g p0 x2) p0) (rt : RW fw56 a1 (TWd g p0 x2) p0) (hn56 : (y3_56 + (2147483648 : Int)).toNat < n56) (H : Heap) (locs : List Loc) (ls : Array Slot) (hw : Wd D A s.heap L0 fw56 H locs) (hl : lv_has ls 4 [(0, .ref a0), (1, .ref a1), (2, .int (iI x2)), (3, .int (iI y3_56))]), W p l e ({ frames := 5, cells := 0, slots := 0, locals := 113 } : Room) s m ([.ref a0, .ref a1, .int (iI x2)] : List Value).toArray below meth c H locs (0 + 0) (0 + 0) (MQ below (Qv D (tq cy) L0 f0 s.heap.size (fun (L1 : List Nat) (f1 : Nat → va_E) => L0 = L1 ∧ GI cy L0 f1 ∧ Ex cy f0 f1 ∧ (Fo (fun y => y = a0 ∨ y = a1) cy f0 f1 ∧ Fr0 f0 f1 ∧ RB f1 a0 (HWd g p0 x2) p0 ∧ RB f1 a1 (TWd g p0 x2) p0))) ([.ref a0, .ref a1, .int (iI x2)] : List Value).toArray s 0 0 A) (F0 m 56 ls []) := by
      intro n56
      induction n56 with
      | zero => intro y3_56 ly3_56 uy3_56 L fw56 hg hE o_a0 o_a1 i1 i2 hF hR ra rt hn56; exact absurd hn56 (Nat.not_lt_zero _)
      | succ n56 ih56 =>
        intro y3_56 ly3_56 uy3_56 L fw56 hg hE o_a0 o_a1 i1 i2 hF hR ra rt hn56 H locs ls hw hl
        refine lv_iload_n hx hb dX0_cutInto_56 rfl (lv_at hl 3 rfl) ?_
        refine q_if_lt (tgt := 112) hx hb dX0_cutInto_57 (by decide) ⟨ly3_56, uy3_56⟩ (fun c57 => ?_) (fun c57 => ?_)
        · refine lv_aload_n hx hb dX0_cutInto_112 rfl (lv_at hl 0 rfl) ?_
          have oa3 := o_a0
          refine q_call_v hA hK hw (va_runV (As := []) (rest := []) ⟨hx, hb, hml, hown, hts⟩ (c_X0_settle_g zo l D cy L0 fw56 a0 m_a0 o_a0 hg (HWd g p0 x2) p0 ra _) (cwV 0 hts (gT (inV (mr41 _ (List.mem_of_getElem? (i := 0) rfl)) (mr14 _ (List.mem_of_getElem? (i := 16) rfl)) (mr14 _ (List.mem_of_getElem? (i := 17) rfl)) (mr2 _ (List.mem_of_getElem? (i := 9) rfl)) (mr14 _ (List.mem_of_getElem? (i := 18) rfl)))) rfl rfl rfl (by decide +kernel) ⟨Nat.le_of_ble_eq_true rfl, Nat.le_of_ble_eq_true rfl⟩) (Wd.preV zo hA hZ hw hK m_a0 o_a0 rfl) rfl rfl hl.1 rfl (lv_room (Nat.le_of_ble_eq_true rfl)) dX0_cutInto_113 ⟨Nat.le_of_ble_eq_true rfl, Nat.le_of_ble_eq_true rfl⟩) (fun L1 f_6 H locs ex_5 hw => ?_)
          obtain ⟨rfl, hg, hX, ex_5⟩ := ex_5
          have hE := hE.trans hX
          have o_a0 := hX.1.1 _ _ o_a0
          have o_a1 := hX.1.1 _ _ o_a1
          obtain ⟨st3, ra3⟩ := ex_5
          have hF := hF.trans (st3.fo hX.1 oa3 (Or.inl rfl))
          have hR : Fr0 f0 f_6 := fun y j => (st3.fr hX.1 oa3 y j).trans (hR y j)
          have rt := rt.st hX.1 st3 oa3 ne
          have ob3 := o_a1
          refine lv_aload_n hx hb dX0_cutInto_116 rfl (lv_at hl 1 rfl) ?_
          refine q_call_v hA hK hw (va_runV (As := []) (rest := []) ⟨hx, hb, hml, hown, hts⟩ (c_X0_settle_g zo l D cy L0 f_6 a1 m_a1 o_a1 hg (TWd g p0 x2) p0 rt _) (cwV 0 hts (gT (inV (mr41 _ (List.mem_of_getElem? (i := 0) rfl)) (mr14 _ (List.mem_of_getElem? (i := 16) rfl)) (mr14 _ (List.mem_of_getElem? (i := 17) rfl)) (mr2 _ (List.mem_of_getElem? (i := 9) rfl)) (mr14 _ (List.mem_of_getElem? (i := 18) rfl)))) rfl rfl rfl (by decide +kernel) ⟨Nat.le_of_ble_eq_true rfl, Nat.le_of_ble_eq_true rfl⟩) (Wd.preV zo hA hZ hw hK m_a1 o_a1 rfl) rfl rfl hl.1 rfl (lv_room (Nat.le_of_ble_eq_true rfl)) dX0_cutInto_117 ⟨Nat.le_of_ble_eq_true rfl, Nat.le_of_ble_eq_true rfl⟩) (fun L1 f_8 H locs ex_7 hw => ?_)
          obtain ⟨rfl, hg, hX, ex_7⟩ := ex_7
          have hE := hE.trans hX
          have o_a0 := hX.1.1 _ _ o_a0
          have o_a1 := hX.1.1 _ _ o_a1
          obtain ⟨st4, rt4⟩ := ex_7
          have hF := hF.trans (st4.fo hX.1 ob3 (Or.inr rfl))
          have hR : Fr0 f0 f_8 := fun y j => (st4.fr hX.1 ob3 y j).trans (hR y j)
          have ra4 := ra3.st hX.1 st4 ob3 ne.symm
          exact q_ret_v hx hb hr hlocks hK hAe hw (Nat.le_of_ble_eq_true rfl) (Nat.le_of_ble_eq_true rfl) dX0_cutInto_120 (by exact ⟨rfl, hg, hE, hF, hR, ra4, rt4⟩)
        · refine lv_iload_n hx hb dX0_cutInto_60 rfl (lv_at hl 3 rfl) ?_
          refine lv_aload_n hx hb dX0_cutInto_61 rfl (lv_at hl 1 rfl) ?_
          refine q_geti (ci := 0) (C := RX0) (T := TX0) (N := 15) hx hb hts (fun w h => List.mem_cons_of_mem _ (mfX00 w h)) hown hK hw m_a1 o_a1 rfl 10 (by decide) (hts _ (List.mem_cons_of_mem _ (mr14 _ (List.mem_of_getElem? (i := 9) rfl)))) (fun _ h => h) rfl dX0_cutInto_62 (fun x_9 lx_9 ux_9 ex_9 => ?_)
          have bx_9 : 0 ≤ x_9 ∧ x_9 ≤ 16 := by rw [ex_9]; exact hg.1 _ m_a1 0 10 o_a1
          have J83 : ∀ (L : List Nat) (fw83 : Nat → va_E) (hg : GI cy L0 fw83) (hE : Ex cy f0 fw83) (o_a0 : Ob fw83 a0 0) (o_a1 : Ob fw83 a1 0) (hF : Fo (fun y => y = a0 ∨ y = a1) cy f0 fw83) (hR : Fr0 f0 fw83) (ra : RW fw83 a0 (HWd g p0 x2) p0) (rt : RW fw83 a1 (TWd g p0 x2) p0) (H : Heap) (locs : List Loc) (ls : Array Slot) (hw : Wd D A s.heap L0 fw83 H locs) (hl : lv_has ls 4 [(0, .ref a0), (1, .ref a1), (2, .int (iI x2)), (3, .int (iI y3_56))]), W p l e ({ frames := 5, cells := 0, slots := 0, locals := 113 } : Room) s m ([.ref a0, .ref a1, .int (iI x2)] : List Value).toArray below meth c H locs (0 + 0) (0 + 0) (MQ below (Qv D (tq cy) L0 f0 s.heap.size (fun (L1 : List Nat) (f1 : Nat → va_E) => L0 = L1 ∧ GI cy L0 f1 ∧ Ex cy f0 f1 ∧ (Fo (fun y => y = a0 ∨ y = a1) cy f0 f1 ∧ Fr0 f0 f1 ∧ RB f1 a0 (HWd g p0 x2) p0 ∧ RB f1 a1 (TWd g p0 x2) p0))) ([.ref a0, .ref a1, .int (iI x2)] : List Value).toArray s 0 0 A) (F0 m 83 ls []) := by
            intro L fw83 hg hE o_a0 o_a1 hF hR ra rt H locs ls hw hl
            refine lv_iload_n hx hb dX0_cutInto_83 rfl (lv_at hl 3 rfl) ?_
            refine lv_aload_n hx hb dX0_cutInto_84 rfl (lv_at hl 0 rfl) ?_
            refine q_geti (ci := 0) (C := RX0) (T := TX0) (N := 15) hx hb hts (fun w h => List.mem_cons_of_mem _ (mfX00 w h)) hown hK hw m_a0 o_a0 rfl 10 (by decide) (hts _ (List.mem_cons_of_mem _ (mr14 _ (List.mem_of_getElem? (i := 9) rfl)))) (fun _ h => h) rfl dX0_cutInto_85 (fun x_10 lx_10 ux_10 ex_10 => ?_)
            have bx_10 : 0 ≤ x_10 ∧ x_10 ≤ 16 := by rw [ex_10]; exact hg.1 _ m_a0 0 10 o_a0
            have J106 : ∀ (L : List Nat) (fw106 : Nat → va_E) (hg : GI cy L0 fw106) (hE : Ex cy f0 fw106) (o_a0 : Ob fw106 a0 0) (o_a1 : Ob fw106 a1 0) (hF : Fo (fun y => y = a0 ∨ y = a1) cy f0 fw106) (hR : Fr0 f0 fw106) (ra : RW fw106 a0 (HWd g p0 x2) p0) (rt : RW fw106 a1 (TWd g p0 x2) p0) (H : Heap) (locs : List Loc) (ls : Array Slot) (hw : Wd D A s.heap L0 fw106 H locs) (hl : lv_has ls 4 [(0, .ref a0), (1, .ref a1), (2, .int (iI x2)), (3, .int (iI y3_56))]), W p l e ({ frames := 5, cells := 0, slots := 0, locals := 113 } : Room) s m ([.ref a0, .ref a1, .int (iI x2)] : List Value).toArray below meth c H locs (0 + 0) (0 + 0) (MQ below (Qv D (tq cy) L0 f0 s.heap.size (fun (L1 : List Nat) (f1 : Nat → va_E) => L0 = L1 ∧ GI cy L0 f1 ∧ Ex cy f0 f1 ∧ (Fo (fun y => y = a0 ∨ y = a1) cy f0 f1 ∧ Fr0 f0 f1 ∧ RB f1 a0 (HWd g p0 x2) p0 ∧ RB f1 a1 (TWd g p0 x2) p0))) ([.ref a0, .ref a1, .int (iI x2)] : List Value).toArray s 0 0 A) (F0 m 106 ls []) := by
              intro L fw106 hg hE o_a0 o_a1 hF hR ra rt H locs ls hw hl
              obtain ⟨x_11, lx_11, ux_11, hx_11, ex_11⟩ := q_inc y3_56 (-1)
              try (replace ex_11 : x_11 = y3_56 + (-1) := by omega)
              refine lv_iinc (v := iI x_11) (lv' := [(3, .int (iI x_11)), (0, .ref a0), (1, .ref a1), (2, .int (iI x2))]) hx hb dX0_cutInto_106 hl (k := 3) rfl hx_11 (by decide) rfl (fun ls hl => ?_)
              refine lv_goto (tgt := 56) hx hb dX0_cutInto_109 (by decide) ?_
              exact ih56 x_11 lx_11 ux_11 L0 fw106 hg hE o_a0 o_a1 (by omega) (by omega) (by exact hF) (by exact hR) (by exact ra) (by exact rt) (by omega) _ _ _ hw (lv_sub hl [1, 2, 3, 0] rfl)
            refine q_icmp_ge (tgt := 106) hx hb dX0_cutInto_88 (by decide) ⟨ly3_56, uy3_56⟩ ⟨lx_10, ux_10⟩ (fun c88 => ?_) (fun c88 => ?_)
            · exact J106 L0 fw83 hg hE o_a0 o_a1 (by exact hF) (by exact hR) (by exact ra) (by exact rt) _ _ _ hw (lv_sub hl [0, 1, 2, 3] rfl)
            · refine lv_aload_n hx hb dX0_cutInto_91 rfl (lv_at hl 0 rfl) ?_
              obtain ⟨r_12, er_12, m_r_12, o_r_12⟩ := (show ∃ r, fR fw83 a0 11 = some r ∧ r ∈ L0 ∧ ArI fw83 r cy.2.1 16 from hg.2.1 _ m_a0 0 11 o_a0)
              refine q_getr (ci := 0) (C := RX0) (T := TX0) (N := 15) hx hb hts (fun w h => List.mem_cons_of_mem _ (mfX00 w h)) hown hK hw m_a0 o_a0 rfl 11 (by decide) (hts _ (List.mem_cons_of_mem _ (mr3 _ (List.mem_of_getElem? (i := 2) rfl)))) (fun _ h => h) rfl er_12 dX0_cutInto_92 ?_
              refine lv_iload_n hx hb dX0_cutInto_95 rfl (lv_at hl 3 rfl) ?_
              refine q_iald hx hb hK hw m_r_12 1 o_r_12 rfl ⟨ly3_56, uy3_56⟩ (by omega) (by omega) dX0_cutInto_96 (fun x_13 lx_13 ux_13 ex_13 => ?_)
              refine lv_iload_n hx hb dX0_cutInto_97 rfl (lv_at hl 2 rfl) ?_
              refine q_icmp_lt (tgt := 106) hx hb dX0_cutInto_98 (by decide) ⟨lx_13, ux_13⟩ ⟨lx2, ux2⟩ (fun c98 => ?_) (fun c98 => ?_)
              · exact J106 L0 fw83 hg hE o_a0 o_a1 (by exact hF) (by exact hR) (by exact ra) (by exact rt) _ _ _ hw (lv_sub hl [0, 1, 2, 3] rfl)
              · refine lv_aload_n hx hb dX0_cutInto_101 rfl (lv_at hl 0 rfl) ?_
                refine lv_iload_n hx hb dX0_cutInto_102 rfl (lv_at hl 3 rfl) ?_
                refine q_call_v hA hK hw (va_runV (As := [.int (iI y3_56)]) (rest := []) ⟨hx, hb, hml, hown, hts⟩ (c_X0_forget_z zo l D cy L0 fw83 a0 y3_56 ly3_56 uy3_56 m_a0 o_a0 hg (by omega) (by omega) (by omega) _) (cwV 1 hts (gT (inV (mr28 _ (List.mem_of_getElem? (i := 15) rfl)) (mr28 _ (List.mem_of_getElem? (i := 16) rfl)) (mr28 _ (List.mem_of_getElem? (i := 17) rfl)) (mr2 _ (List.mem_of_getElem? (i := 9) rfl)) (mr28 _ (List.mem_of_getElem? (i := 18) rfl)))) rfl rfl rfl (by decide +kernel) ⟨Nat.le_of_ble_eq_true rfl, Nat.le_of_ble_eq_true rfl⟩) (Wd.preV zo hA hZ hw hK m_a0 o_a0 rfl) rfl rfl hl.1 rfl (lv_room (Nat.le_of_ble_eq_true rfl)) dX0_cutInto_103 ⟨Nat.le_of_ble_eq_true rfl, Nat.le_of_ble_eq_true rfl⟩) (fun L1 f_15 H locs ex_14 hw => ?_)
                obtain ⟨rfl, hg, hX, ex_14⟩ := ex_14
                have hE := hE.trans hX.1
                have o_a0 := hX.1.1.1 _ _ o_a0
                have o_a1 := hX.1.1.1 _ _ o_a1
                have hF := hF.trans hX.fo
                have hR : Fr0 f0 f_15 := fun y j => (hX.2.2.2.1 y j).trans (hR y j)
                have ra := ra.ef hX
                have rt := rt.ef hX
                exact J106 L0 f_15 hg hE o_a0 o_a1 (by exact hF) (by exact hR) (by exact ra) (by exact rt) _ _ _ hw (lv_sub hl [0, 1, 2, 3] rfl)
          refine q_icmp_ge (tgt := 83) hx hb dX0_cutInto_65 (by decide) ⟨ly3_56, uy3_56⟩ ⟨lx_9, ux_9⟩ (fun c65 => ?_) (fun c65 => ?_)
          · exact J83 L0 fw56 hg hE o_a0 o_a1 (by exact hF) (by exact hR) (by exact ra) (by exact rt) _ _ _ hw (lv_sub hl [0, 1, 2, 3] rfl)
          · refine lv_aload_n hx hb dX0_cutInto_68 rfl (lv_at hl 1 rfl) ?_
            obtain ⟨r_16, er_16, m_r_16, o_r_16⟩ := (show ∃ r, fR fw56 a1 11 = some r ∧ r ∈ L0 ∧ ArI fw56 r cy.2.1 16 from hg.2.1 _ m_a1 0 11 o_a1)
            refine q_getr (ci := 0) (C := RX0) (T := TX0) (N := 15) hx hb hts (fun w h => List.mem_cons_of_mem _ (mfX00 w h)) hown hK hw m_a1 o_a1 rfl 11 (by decide) (hts _ (List.mem_cons_of_mem _ (mr3 _ (List.mem_of_getElem? (i := 2) rfl)))) (fun _ h => h) rfl er_16 dX0_cutInto_69 ?_
            refine lv_iload_n hx hb dX0_cutInto_72 rfl (lv_at hl 3 rfl) ?_
            refine q_iald hx hb hK hw m_r_16 1 o_r_16 rfl ⟨ly3_56, uy3_56⟩ (by omega) (by omega) dX0_cutInto_73 (fun x_17 lx_17 ux_17 ex_17 => ?_)
            refine lv_iload_n hx hb dX0_cutInto_74 rfl (lv_at hl 2 rfl) ?_
            refine q_icmp_ge (tgt := 83) hx hb dX0_cutInto_75 (by decide) ⟨lx_17, ux_17⟩ ⟨lx2, ux2⟩ (fun c75 => ?_) (fun c75 => ?_)
            · exact J83 L0 fw56 hg hE o_a0 o_a1 (by exact hF) (by exact hR) (by exact ra) (by exact rt) _ _ _ hw (lv_sub hl [0, 1, 2, 3] rfl)
            · refine lv_aload_n hx hb dX0_cutInto_78 rfl (lv_at hl 1 rfl) ?_
              refine lv_iload_n hx hb dX0_cutInto_79 rfl (lv_at hl 3 rfl) ?_
              refine q_call_v hA hK hw (va_runV (As := [.int (iI y3_56)]) (rest := []) ⟨hx, hb, hml, hown, hts⟩ (c_X0_forget_z zo l D cy L0 fw56 a1 y3_56 ly3_56 uy3_56 m_a1 o_a1 hg (by omega) (by omega) (by omega) _) (cwV 1 hts (gT (inV (mr28 _ (List.mem_of_getElem? (i := 15) rfl)) (mr28 _ (List.mem_of_getElem? (i := 16) rfl)) (mr28 _ (List.mem_of_getElem? (i := 17) rfl)) (mr2 _ (List.mem_of_getElem? (i := 9) rfl)) (mr28 _ (List.mem_of_getElem? (i := 18) rfl)))) rfl rfl rfl (by decide +kernel) ⟨Nat.le_of_ble_eq_true rfl, Nat.le_of_ble_eq_true rfl⟩) (Wd.preV zo hA hZ hw hK m_a1 o_a1 rfl) rfl rfl hl.1 rfl (lv_room (Nat.le_of_ble_eq_true rfl)) dX0_cutInto_80 ⟨Nat.le_of_ble_eq_true rfl, Nat.le_of_ble_eq_true rfl⟩) (fun L1 f_19 H locs ex_18 hw => ?_)
              obtain ⟨rfl, hg, hX, ex_18⟩ := ex_18
              have hE := hE.trans hX.1
              have o_a0 := hX.1.1.1 _ _ o_a0
              have o_a1 := hX.1.1.1 _ _ o_a1
              have hF := hF.trans hX.fo
              have hR : Fr0 f0 f_19 := fun y j => (hX.2.2.2.1 y j).trans (hR y j)
              have ra := ra.ef hX
              have rt := rt.ef hX
              exact J83 L0 f_19 hg hE o_a0 o_a1 (by exact hF) (by exact hR) (by exact ra) (by exact rt) _ _ _ hw (lv_sub hl [0, 1, 2, 3] rfl)
    exact J56 (((15 + (2147483648 : Int)).toNat) + 1) 15 (by decide) (by decide) L0 fw53 hg hE o_a0 o_a1 (by omega) (by omega) (by exact hF) (by exact hR) (by exact ra) (by exact rt) (by omega) _ _ _ hw (lv_sub hl [1, 2, 3, 0] rfl)
  refine q_icmp_ne (tgt := 28) hx hb dX0_cutInto_15 (by decide) ⟨lx_4, ux_4⟩ ⟨by decide, by decide⟩ (fun c15 => ?_) (fun c15 => ?_)
  · refine lv_aload_n hx hb dX0_cutInto_28 rfl (lv_at hl 0 rfl) ?_
    refine lv_aload_n hx hb dX0_cutInto_29 rfl (lv_at hl 0 rfl) ?_
    refine q_iconst hx hb dX0_cutInto_30 ?_
    refine lv_iload_n hx hb dX0_cutInto_31 rfl (lv_at hl 2 rfl) ?_
    refine q_iconst hx hb dX0_cutInto_32 ?_
    first | refine q_isub hx hb dX0_cutInto_33 ⟨by omega, by omega⟩ (fun x_20 lx_20 ux_20 ex_20 => ?_) | refine q_isubw hx hb dX0_cutInto_33 (fun x_20 lx_20 ux_20 _ => ?_)
    refine q_call_i hA hK hw (va_runV (As := [.int (iI 0), .int (iI x_20)]) (rest := [.ref a0]) ⟨hx, hb, hml, hown, hts⟩ (c_X0_keysIn_g zo l D cy L0 f_3 a0 0 (by decide) (by decide) x_20 lx_20 ux_20 m_a0 o_a0 hg g p0 rb2 _) (cwV 2 hts (gT (inV (mr31 _ (List.mem_of_getElem? (i := 19) rfl)) (mr25 _ (List.mem_of_getElem? (i := 17) rfl)) (mr25 _ (List.mem_of_getElem? (i := 18) rfl)) (mr2 _ (List.mem_of_getElem? (i := 9) rfl)) (mr25 _ (List.mem_of_getElem? (i := 19) rfl)))) rfl rfl rfl (by decide +kernel) ⟨Nat.le_of_ble_eq_true rfl, Nat.le_of_ble_eq_true rfl⟩) (Wd.preV zo hA hZ hw hK m_a0 o_a0 rfl) rfl rfl hl.1 rfl (lv_room (Nat.le_of_ble_eq_true rfl)) dX0_cutInto_34 ⟨Nat.le_of_ble_eq_true rfl, Nat.le_of_ble_eq_true rfl⟩) (fun x_21 L1 f1 H locs lx_21 ux_21 ex_21 hw => ?_)
    obtain ⟨rfl, rfl, ex_21⟩ := ex_21
    have c34 : x_21 = cn (KG g p0) 0 x2 := ex_21.trans (by rw [show x_20 + 1 = x2 by omega])
    clear ex_21
    refine q_puti (ci := 0) (C := RX0) (T := TX0) (N := 15) hx hb hts (fun w h => List.mem_cons_of_mem _ (mfX00 w h)) hown hK hw m_a0 o_a0 rfl 5 (by decide) (hts _ (List.mem_cons_of_mem _ (mr14 _ (List.mem_of_getElem? (i := 8) rfl)))) (fun _ h => h) tyX0 tyX0_ok nmX0 rfl (ty := .int) (by decide +kernel) rfl rfl dX0_cutInto_37 (fun H locs hw => ?_)
    have oo := o_a0
    obtain ⟨f_22, ef_22⟩ : ∃ g : Nat → va_E, g = pU f_3 a0 5 (.int (iI x_21)) := ⟨_, rfl⟩
    have hX : Ex cy f_3 f_22 := by rw [ef_22]; exact Ex_pU oo rfl rfl (by decide)
    have hg : GI cy L0 f_22 := by rw [ef_22]; exact hg.putI oo rfl ⟨lx_21, ux_21⟩ trivial
    rw [← ef_22] at hw
    have hE := hE.trans hX
    have o_a0 := hX.1.1 _ _ o_a0
    have o_a1 := hX.1.1 _ _ o_a1
    have vf_22 : fI f_22 a0 5 = x_21 := by rw [ef_22]; exact fI_pU_self oo rfl ⟨lx_21, ux_21⟩
    have hF := hF.pU oo rfl rfl ef_22 (Or.inl rfl)
    have hR : Fr0 f0 f_22 := fun y j => Eq.trans (by rw [ef_22]; exact aR_pU oo) (hR y j)
    have rt := rt.other oo rfl rfl ef_22 ne
    have ra := ra.put (off := 9) (x' := cn (KG g p0) 0 x2) oo rfl ⟨by omega, by omega⟩ ef_22 (by omega) c34 (ra.2.2.upd9 (by omega) (by omega) (by omega))
    have tt : fI f_22 a0 9 = cn (KG g p0) 0 36525 := by rw [ef_22, fI_pU (Or.inr (by decide))]; exact rb2.2.2
    refine lv_aload_n hx hb dX0_cutInto_40 rfl (lv_at hl 1 rfl) ?_
    refine lv_aload_n hx hb dX0_cutInto_41 rfl (lv_at hl 0 rfl) ?_
    refine q_geti (ci := 0) (C := RX0) (T := TX0) (N := 15) hx hb hts (fun w h => List.mem_cons_of_mem _ (mfX00 w h)) hown hK hw m_a0 o_a0 rfl 9 (by decide) (hts _ (List.mem_cons_of_mem _ (mr14 _ (List.mem_of_getElem? (i := 22) rfl)))) (fun _ h => h) rfl dX0_cutInto_42 (fun x_23 lx_23 ux_23 ex_23 => ?_)
    refine lv_aload_n hx hb dX0_cutInto_45 rfl (lv_at hl 0 rfl) ?_
    refine q_geti (ci := 0) (C := RX0) (T := TX0) (N := 15) hx hb hts (fun w h => List.mem_cons_of_mem _ (mfX00 w h)) hown hK hw m_a0 o_a0 rfl 5 (by decide) (hts _ (List.mem_cons_of_mem _ (mr14 _ (List.mem_of_getElem? (i := 8) rfl)))) (fun _ h => h) rfl dX0_cutInto_46 (fun x_24 lx_24 ux_24 ex_24 => ?_)
    first | refine q_isub hx hb dX0_cutInto_49 ⟨by omega, by omega⟩ (fun x_25 lx_25 ux_25 ex_25 => ?_) | refine q_isubw hx hb dX0_cutInto_49 (fun x_25 lx_25 ux_25 _ => ?_)
    refine q_puti (ci := 0) (C := RX0) (T := TX0) (N := 15) hx hb hts (fun w h => List.mem_cons_of_mem _ (mfX00 w h)) hown hK hw m_a1 o_a1 rfl 5 (by decide) (hts _ (List.mem_cons_of_mem _ (mr14 _ (List.mem_of_getElem? (i := 8) rfl)))) (fun _ h => h) tyX0 tyX0_ok nmX0 rfl (ty := .int) (by decide +kernel) rfl rfl dX0_cutInto_50 (fun H locs hw => ?_)
    have oo := o_a1
    obtain ⟨f_26, ef_26⟩ : ∃ g : Nat → va_E, g = pU f_22 a1 5 (.int (iI x_25)) := ⟨_, rfl⟩
    have hX : Ex cy f_22 f_26 := by rw [ef_26]; exact Ex_pU oo rfl rfl (by decide)
    have hg : GI cy L0 f_26 := by rw [ef_26]; exact hg.putI oo rfl ⟨lx_25, ux_25⟩ trivial
    rw [← ef_26] at hw
    have hE := hE.trans hX
    have o_a0 := hX.1.1 _ _ o_a0
    have o_a1 := hX.1.1 _ _ o_a1
    have vf_26 : fI f_26 a1 5 = x_25 := by rw [ef_26]; exact fI_pU_self oo rfl ⟨lx_25, ux_25⟩
    have hF := hF.pU oo rfl rfl ef_26 (Or.inr rfl)
    have hR : Fr0 f0 f_26 := fun y j => Eq.trans (by rw [ef_26]; exact aR_pU oo) (hR y j)
    have ra := ra.other oo rfl rfl ef_26 ne.symm
    have rt := rt.put (off := 9) (x' := cn (KG g p0) 0 36525 - cn (KG g p0) 0 x2) oo rfl ⟨by omega, by omega⟩ ef_26 (by omega) (by omega) (rt.2.2.upd9 (by omega) (by omega) (by omega))
    exact J53 L0 f_26 hg hE o_a0 o_a1 (by exact hF) (by exact hR) (by first | (rw [HWd_u (show g (p0 + 9) < 0 by omega)]; exact ra) | (rw [HWd_t (show ¬ g (p0 + 9) < 0 by omega)]; exact ra) | fail "none") (by first | (rw [TWd_u (show g (p0 + 9) < 0 by omega)]; exact rt) | (rw [TWd_t (show ¬ g (p0 + 9) < 0 by omega)]; exact rt) | fail "none") _ _ _ hw (lv_sub hl [0, 1, 2] rfl)
  · refine lv_aload_n hx hb dX0_cutInto_18 rfl (lv_at hl 0 rfl) ?_
    refine lv_iload_n hx hb dX0_cutInto_19 rfl (lv_at hl 2 rfl) ?_
    refine q_iconst hx hb dX0_cutInto_20 ?_
    first | refine q_isub hx hb dX0_cutInto_21 ⟨by omega, by omega⟩ (fun x_27 lx_27 ux_27 ex_27 => ?_) | refine q_isubw hx hb dX0_cutInto_21 (fun x_27 lx_27 ux_27 _ => ?_)
    refine q_puti (ci := 0) (C := RX0) (T := TX0) (N := 15) hx hb hts (fun w h => List.mem_cons_of_mem _ (mfX00 w h)) hown hK hw m_a0 o_a0 rfl 4 (by decide) (hts _ (List.mem_cons_of_mem _ (mr14 _ (List.mem_of_getElem? (i := 7) rfl)))) (fun _ h => h) tyX0 tyX0_ok nmX0 rfl (ty := .int) (by decide +kernel) rfl rfl dX0_cutInto_22 (fun H locs hw => ?_)
    have oo := o_a0
    obtain ⟨f_28, ef_28⟩ : ∃ g : Nat → va_E, g = pU f_3 a0 4 (.int (iI x_27)) := ⟨_, rfl⟩
    have hX : Ex cy f_3 f_28 := by rw [ef_28]; exact Ex_pU oo rfl rfl (by decide)
    have hg : GI cy L0 f_28 := by rw [ef_28]; exact hg.putI oo rfl ⟨lx_27, ux_27⟩ trivial
    rw [← ef_28] at hw
    have hE := hE.trans hX
    have o_a0 := hX.1.1 _ _ o_a0
    have o_a1 := hX.1.1 _ _ o_a1
    have vf_28 : fI f_28 a0 4 = x_27 := by rw [ef_28]; exact fI_pU_self oo rfl ⟨lx_27, ux_27⟩
    have hF := hF.pU oo rfl rfl ef_28 (Or.inl rfl)
    have hR : Fr0 f0 f_28 := fun y j => Eq.trans (by rw [ef_28]; exact aR_pU oo) (hR y j)
    have rt := rt.other oo rfl rfl ef_28 ne
    have ra := ra.put (off := 8) (x' := x2 - 1) oo rfl ⟨by omega, by omega⟩ ef_28 (by omega) (by omega) (ra.2.2.upd8 (by omega) (by omega) (by omega))
    refine lv_goto (tgt := 53) hx hb dX0_cutInto_25 (by decide) ?_
    exact J53 L0 f_28 hg hE o_a0 o_a1 (by exact hF) (by exact hR) (by first | (rw [HWd_u (show g (p0 + 9) < 0 by omega)]; exact ra) | (rw [HWd_t (show ¬ g (p0 + 9) < 0 by omega)]; exact ra) | fail "none") (by first | (rw [TWd_u (show g (p0 + 9) < 0 by omega)]; exact rt) | (rw [TWd_t (show ¬ g (p0 + 9) < 0 by omega)]; exact rt) | fail "none") _ _ _ hw (lv_sub hl [0, 1, 2] rfl)
set_option maxHeartbeats 4000000 in
set_option maxRecDepth 100000 in
theorem c_X7_remove_f {Z : Zt} (zo : Zok Z) (l : Launch) (D : va_G) (cy : Cy) (L0 : List Nat) (f0 : Nat → va_E) (a0 : Nat) (x1 : Int) (lx1 : -2147483648 ≤ x1) (ux1 : x1 ≤ 2147483647) (m_a0 : a0 ∈ L0) (o_a0 : Ob f0 a0 5) (hg : GI cy L0 f0) (rq : Int → Nat) (ar : Nat) (ea : fR f0 a0 0 = some ar) (rr : RR f0 ar rq) (h1 : 0 ≤ x1) (h2 : x1 < fI f0 a0 1) : Cv Z l yX7_remove (Cond.code yX7_remove cX7_remove 4 none :: TB) ({ frames := 0, cells := 0, slots := 0, locals := 0 } : Room) 0 0 D (tq cy) [.ref a0, .int (iI x1)] L0 f0 (fun (L1 : List Nat) (f1 : Nat → va_E) => L0 = L1 ∧ GI cy L0 f1 ∧ Ex cy f0 f1 ∧ (fI f1 a0 1 = fI f0 a0 1 - 1 ∧ RM f0 f1 a0 ar ∧ RR f1 ar (rmv rq x1 (fI f0 a0 1 - 1)))) := by
  refine Cv.enter (cc := cX7_remove) (n := 4) rfl (plainFor_of_name (by decide)) (Nat.le_of_ble_eq_true rfl) ?_
  intro p e s m below meth c ls A hx hb hr hts hown hlocks hnm hml hK hA hAe hw hZ hl
  have hown : s.vm.findClass RX7 = some m.cls := hown
  have hl : lv_has ls 4 [(0, .ref a0), (1, .int (iI x1))] := hl
  have hN : ZN s := (zo.2.2.2.2 _ _ _ hZ).2
  have hE : Ex cy f0 f0 := Ex.refl cy f0
  have bs : 0 ≤ fI f0 a0 1 ∧ fI f0 a0 1 ≤ 12 := hg.1 _ m_a0 5 1 o_a0
  have hM := RM.refl f0 a0 ar
  refine lv_aload_n hx hb dX7_remove_0 rfl (lv_at hl 0 rfl) ?_
  obtain ⟨r_1, er_1, m_r_1, o_r_1⟩ := (show ∃ r, fR f0 a0 0 = some r ∧ r ∈ L0 ∧ ArR f0 r cy.2.2.2.1 12 from hg.2.1 _ m_a0 5 0 o_a0)
  refine q_getr (ci := 5) (C := RX7) (T := TX7) (N := 2) hx hb hts (fun w h => List.mem_cons_of_mem _ (mfX70 w h)) hown hK hw m_a0 o_a0 rfl 0 (by decide) (hts _ (List.mem_cons_of_mem _ (mr2 _ (List.mem_of_getElem? (i := 3) rfl)))) (fun _ h => h) rfl er_1 dX7_remove_1 ?_
  have za1 : r_1 = ar := Option.some.inj (er_1.symm.trans (hM.ea ea))
  refine lv_iload_n hx hb dX7_remove_4 rfl (lv_at hl 1 rfl) ?_
  obtain ⟨r_2, er_2, m_r_2, o_r_2⟩ := hg.2.2.1 _ m_r_1 x1 o_r_1 (by omega) (by omega)
  refine q_aald hx hb hK hw m_r_1 3 o_r_1 rfl ⟨lx1, ux1⟩ (by omega) (by omega) er_2 dX7_remove_5 ?_
  show W _ _ _ _ _ _ _ _ _ _ _ _ _ _ _ (F0 m 6 ls (.ref r_2 :: []))
  have g5 := rr.get za1 er_2 (by omega) (by omega)
  refine lv_astore_n (lv' := [(2, .ref r_2), (0, .ref a0), (1, .int (iI x1))]) hx hb dX7_remove_6 rfl hl (by decide) rfl (fun ls hl => ?_)
  refine lv_aload_n hx hb dX7_remove_7 rfl (lv_at hl 1 rfl) ?_
  refine lv_dup hx hb dX7_remove_8 rfl ?_
  refine q_geti (ci := 5) (C := RX7) (T := TX7) (N := 2) hx hb hts (fun w h => List.mem_cons_of_mem _ (mfX70 w h)) hown hK hw m_a0 o_a0 rfl 1 (by decide) (hts _ (List.mem_cons_of_mem _ (mr2 _ (List.mem_of_getElem? (i := 4) rfl)))) (fun _ h => h) rfl dX7_remove_9 (fun x_3 lx_3 ux_3 ex_3 => ?_)
  have bx_3 : 0 ≤ x_3 ∧ x_3 ≤ 12 := by rw [ex_3]; exact hg.1 _ m_a0 5 1 o_a0
  refine q_iconst hx hb dX7_remove_12 ?_
  first | refine q_isub hx hb dX7_remove_13 ⟨by omega, by omega⟩ (fun x_4 lx_4 ux_4 ex_4 => ?_) | refine q_isubw hx hb dX7_remove_13 (fun x_4 lx_4 ux_4 _ => ?_)
  refine q_puti (ci := 5) (C := RX7) (T := TX7) (N := 2) hx hb hts (fun w h => List.mem_cons_of_mem _ (mfX70 w h)) hown hK hw m_a0 o_a0 rfl 1 (by decide) (hts _ (List.mem_cons_of_mem _ (mr2 _ (List.mem_of_getElem? (i := 4) rfl)))) (fun _ h => h) tyX7 tyX7_ok nmX7 rfl (ty := .int) (by decide +kernel) rfl rfl dX7_remove_14 (fun H locs hw => ?_)
  have oo := o_a0
  obtain ⟨f_5, ef_5⟩ : ∃ g : Nat → va_E, g = pU f0 a0 1 (.int (iI x_4)) := ⟨_, rfl⟩
  have hX : Ex cy f0 f_5 := by rw [ef_5]; exact Ex_pU oo rfl rfl (by decide)
  have hg : GI cy L0 f_5 := by rw [ef_5]; exact hg.putI oo rfl ⟨lx_4, ux_4⟩ (by show 0 ≤ x_4 ∧ x_4 ≤ 12; omega)
  rw [← ef_5] at hw
  have hE := hE.trans hX
  have o_r_2 := hX.1.1 _ _ o_r_2
  have o_a0 := hX.1.1 _ _ o_a0
  have vf_5 : fI f_5 a0 1 = x_4 := by rw [ef_5]; exact fI_pU_self oo rfl ⟨lx_4, ux_4⟩
  have hM := hM.put1 oo ef_5
  have rr := rr.pU oo ef_5
  refine lv_iload_n hx hb dX7_remove_17 rfl (lv_at hl 2 rfl) ?_
  refine lv_istore_n (lv' := [(3, .int (iI x1)), (2, .ref r_2), (0, .ref a0), (1, .int (iI x1))]) hx hb dX7_remove_18 rfl hl (by decide) rfl (fun ls hl => ?_)
  have J19 : ∀ (n19 : Nat) (y3_19 : Int) (ly3_19 : -2147483648 ≤ y3_19) (uy3_19 : y3_19 ≤ 2147483647) (L : List Nat) (fw19 : Nat → va_E) (hg : GI cy L0 fw19) (hE : Ex cy f0 fw19) (o_a0 : Ob fw19 a0 5) (o_r_2 : Ob fw19 r_2 0) (i1 : x1 ≤ y3_19) (i2 : fI fw19 a0 1 = fI f0 a0 1 - 1) (i3 : y3_19 ≤ fI fw19 a0 1) (hM : RM f0 fw19 a0 ar) (rr : RR fw19 ar (rmF rq x1 y3_19)) (hn19 : ((2147483647 : Int) - y3_19).toNat < n19) (H : Heap) (locs : List Loc) (ls : Array Slot) (hw : Wd D A s.heap L0 fw19 H locs) (hl : lv_has ls 4 [(0, .ref a0), (2, .ref r_2), (3, .int (iI y3_19))]), W p l e ({ frames := 0, cells := 0, slots := 0, locals := 0 } : Room) s m ([.ref a0, .int (iI x1)] : List Value).toArray below meth c H locs (0) (0) (MQ below (Qv D (tq cy) L0 f0 s.heap.size (fun (L1 : List Nat) (f1 : Nat → va_E) => L0 = L1 ∧ GI cy L0 f1 ∧ Ex cy f0 f1 ∧ (fI f1 a0 1 = fI f0 a0 1 - 1 ∧ RM f0 f1 a0 ar ∧ RR f1 ar (rmv rq x1 (fI f0 a0 1 - 1))))) ([.ref a0, .int (iI x1)] : List Value).toArray s 0 0 A) (F0 m 19 ls []) := by
    intro n19
    induction n19 with
    | zero => intro y3_19 ly3_19 uy3_19 L fw19 hg hE o_a0 o_r_2 i1 i2 i3 hM rr hn19; exact absurd hn19 (Nat.not_lt_zero _)
    | succ n19 ih19 =>
      intro y3_19 ly3_19 uy3_19 L fw19 hg hE o_a0 o_r_2 i1 i2 i3 hM rr hn19 H locs ls hw hl
      refine lv_iload_n hx hb dX7_remove_19 rfl (lv_at hl 2 rfl) ?_
      refine lv_aload_n hx hb dX7_remove_20 rfl (lv_at hl 0 rfl) ?_
      refine q_geti (ci := 5) (C := RX7) (T := TX7) (N := 2) hx hb hts (fun w h => List.mem_cons_of_mem _ (mfX70 w h)) hown hK hw m_a0 o_a0 rfl 1 (by decide) (hts _ (List.mem_cons_of_mem _ (mr2 _ (List.mem_of_getElem? (i := 4) rfl)))) (fun _ h => h) rfl dX7_remove_21 (fun x_6 lx_6 ux_6 ex_6 => ?_)
      have bx_6 : 0 ≤ x_6 ∧ x_6 ≤ 12 := by rw [ex_6]; exact hg.1 _ m_a0 5 1 o_a0
      refine q_icmp_ge (tgt := 47) hx hb dX7_remove_24 (by decide) ⟨ly3_19, uy3_19⟩ ⟨lx_6, ux_6⟩ (fun c24 => ?_) (fun c24 => ?_)
      · refine lv_aload_n hx hb dX7_remove_47 rfl (lv_at hl 0 rfl) ?_
        obtain ⟨r_7, er_7, m_r_7, o_r_7⟩ := (show ∃ r, fR fw19 a0 0 = some r ∧ r ∈ L0 ∧ ArR fw19 r cy.2.2.2.1 12 from hg.2.1 _ m_a0 5 0 o_a0)
        refine q_getr (ci := 5) (C := RX7) (T := TX7) (N := 2) hx hb hts (fun w h => List.mem_cons_of_mem _ (mfX70 w h)) hown hK hw m_a0 o_a0 rfl 0 (by decide) (hts _ (List.mem_cons_of_mem _ (mr2 _ (List.mem_of_getElem? (i := 3) rfl)))) (fun _ h => h) rfl er_7 dX7_remove_48 ?_
        have za48 : r_7 = ar := Option.some.inj (er_7.symm.trans (hM.ea ea))
        refine lv_aload_n hx hb dX7_remove_51 rfl (lv_at hl 0 rfl) ?_
        refine q_geti (ci := 5) (C := RX7) (T := TX7) (N := 2) hx hb hts (fun w h => List.mem_cons_of_mem _ (mfX70 w h)) hown hK hw m_a0 o_a0 rfl 1 (by decide) (hts _ (List.mem_cons_of_mem _ (mr2 _ (List.mem_of_getElem? (i := 4) rfl)))) (fun _ h => h) rfl dX7_remove_52 (fun x_8 lx_8 ux_8 ex_8 => ?_)
        have bx_8 : 0 ≤ x_8 ∧ x_8 ≤ 12 := by rw [ex_8]; exact hg.1 _ m_a0 5 1 o_a0
        refine lv_aload_n hx hb dX7_remove_55 rfl (lv_at hl 1 rfl) ?_
        refine q_aast hx hb hK hw m_r_7 3 o_r_7 rfl m_r_2 o_r_2 rfl ⟨lx_8, ux_8⟩ (by omega) (by omega) dX7_remove_56 (fun H locs hw => ?_)
        have oo := o_r_7
        have ov := o_r_2
        obtain ⟨f_9, ef_9⟩ : ∃ g : Nat → va_E, g = rU fw19 r_7 x_8 (some r_2) := ⟨_, rfl⟩
        have hX : Ex cy fw19 f_9 := by rw [ef_9]; exact Ex_rU oo
        have hg : GI cy L0 f_9 := by rw [ef_9]; exact hg.putB oo (by omega) m_r_2 ov
        rw [← ef_9] at hw
        have hE := hE.trans hX
        have o_a0 := hX.1.1 _ _ o_a0
        have o_r_2 := hX.1.1 _ _ o_r_2
        have t_a0_1_f_9 : fI f_9 a0 1 = fI fw19 a0 1 := by rw [ef_9]; exact fI_rU oo
        have rr' := rm_fin rr oo za48 ef_9 g5 (by omega) (by omega) (by omega)
        have hM := hM.set oo za48 ef_9
        exact q_ret_v hx hb hr hlocks hK hAe hw (Nat.le_of_ble_eq_true rfl) (Nat.le_of_ble_eq_true rfl) dX7_remove_57 (by exact ⟨rfl, hg, hE, by omega, hM, rr_n rr' (by omega)⟩)
      · refine lv_aload_n hx hb dX7_remove_27 rfl (lv_at hl 0 rfl) ?_
        obtain ⟨r_10, er_10, m_r_10, o_r_10⟩ := (show ∃ r, fR fw19 a0 0 = some r ∧ r ∈ L0 ∧ ArR fw19 r cy.2.2.2.1 12 from hg.2.1 _ m_a0 5 0 o_a0)
        refine q_getr (ci := 5) (C := RX7) (T := TX7) (N := 2) hx hb hts (fun w h => List.mem_cons_of_mem _ (mfX70 w h)) hown hK hw m_a0 o_a0 rfl 0 (by decide) (hts _ (List.mem_cons_of_mem _ (mr2 _ (List.mem_of_getElem? (i := 3) rfl)))) (fun _ h => h) rfl er_10 dX7_remove_28 ?_
        have za28 : r_10 = ar := Option.some.inj (er_10.symm.trans (hM.ea ea))
        refine lv_iload_n hx hb dX7_remove_31 rfl (lv_at hl 2 rfl) ?_
        refine lv_aload_n hx hb dX7_remove_32 rfl (lv_at hl 0 rfl) ?_
        refine q_getr (ci := 5) (C := RX7) (T := TX7) (N := 2) hx hb hts (fun w h => List.mem_cons_of_mem _ (mfX70 w h)) hown hK hw m_a0 o_a0 rfl 0 (by decide) (hts _ (List.mem_cons_of_mem _ (mr2 _ (List.mem_of_getElem? (i := 3) rfl)))) (fun _ h => h) rfl er_10 dX7_remove_33 ?_
        have za33 : r_10 = ar := Option.some.inj (er_10.symm.trans (hM.ea ea))
        refine lv_iload_n hx hb dX7_remove_36 rfl (lv_at hl 2 rfl) ?_
        refine q_iconst hx hb dX7_remove_37 ?_
        first | refine q_iadd hx hb dX7_remove_38 ⟨by omega, by omega⟩ (fun x_11 lx_11 ux_11 ex_11 => ?_) | refine q_iaddw hx hb dX7_remove_38 (fun x_11 lx_11 ux_11 _ => ?_)
        obtain ⟨r_12, er_12, m_r_12, o_r_12⟩ := hg.2.2.1 _ m_r_10 x_11 o_r_10 (by omega) (by omega)
        refine q_aald hx hb hK hw m_r_10 3 o_r_10 rfl ⟨lx_11, ux_11⟩ (by omega) (by omega) er_12 dX7_remove_39 ?_
        show W _ _ _ _ _ _ _ _ _ _ _ _ _ _ _ (F0 m 40 ls (.ref r_12 :: [.int (iI y3_19), .ref r_10]))
        have g39 := rm_get rr za33 er_12 (by omega) (by omega) (by omega)
        refine q_aast hx hb hK hw m_r_10 3 o_r_10 rfl m_r_12 o_r_12 rfl ⟨ly3_19, uy3_19⟩ (by omega) (by omega) dX7_remove_40 (fun H locs hw => ?_)
        have oo := o_r_10
        have ov := o_r_12
        obtain ⟨f_13, ef_13⟩ : ∃ g : Nat → va_E, g = rU fw19 r_10 y3_19 (some r_12) := ⟨_, rfl⟩
        have hX : Ex cy fw19 f_13 := by rw [ef_13]; exact Ex_rU oo
        have hg : GI cy L0 f_13 := by rw [ef_13]; exact hg.putB oo (by omega) m_r_12 ov
        rw [← ef_13] at hw
        have hE := hE.trans hX
        have o_a0 := hX.1.1 _ _ o_a0
        have o_r_2 := hX.1.1 _ _ o_r_2
        have t_a0_1_f_13 : fI f_13 a0 1 = fI fw19 a0 1 := by rw [ef_13]; exact fI_rU oo
        have rr' := rm_step (k' := y3_19 + 1) rr oo za28 ef_13 (g39.trans (by congr 1 <;> omega)) (by omega) (by omega) rfl
        have hM := hM.set oo za28 ef_13
        obtain ⟨x_14, lx_14, ux_14, hx_14, ex_14⟩ := q_inc y3_19 (1)
        try (replace ex_14 : x_14 = y3_19 + (1) := by omega)
        refine lv_iinc (v := iI x_14) (lv' := [(3, .int (iI x_14)), (0, .ref a0), (2, .ref r_2)]) hx hb dX7_remove_41 hl (k := 2) rfl hx_14 (by decide) rfl (fun ls hl => ?_)
        refine lv_goto (tgt := 19) hx hb dX7_remove_44 (by decide) ?_
        exact ih19 x_14 lx_14 ux_14 L0 f_13 hg hE o_a0 o_r_2 (by omega) (by omega) (by omega) (by exact hM) (by first | exact rm_start rr (Int.le_refl _) | exact rm_arg rr' (by omega) | fail "none") (by omega) _ _ _ hw (lv_sub hl [1, 2, 0] rfl)
  exact J19 ((((2147483647 : Int) - x1).toNat) + 1) x1 lx1 ux1 L0 f_5 hg hE o_a0 o_r_2 (by omega) (by omega) (by omega) (by exact hM) (by first | exact rm_start rr (Int.le_refl _) | exact rm_arg rr' (by omega) | fail "none") (by omega) _ _ _ hw (lv_sub hl [2, 1, 0] rfl)
set_option maxHeartbeats 4000000 in
set_option maxRecDepth 100000 in
theorem c_X7_keepSpare_f {Z : Zt} (zo : Zok Z) (l : Launch) (D : va_G) (cy : Cy) (L0 : List Nat) (f0 : Nat → va_E) (a0 : Nat) (m_a0 : a0 ∈ L0) (o_a0 : Ob f0 a0 5) (hg : GI cy L0 f0) (h2 : fI f0 a0 1 < 12) : Ci Z l yX7_keepSpare (Cond.code yX7_keepSpare cX7_keepSpare 1 (some .int) :: TB) ({ frames := 1, cells := 0, slots := 0, locals := 21 } : Room) 0 0 D (tq cy) [.ref a0] L0 f0 (fun (r : Int) (L1 : List Nat) (f1 : Nat → va_E) => L0 = L1 ∧ GI cy L0 f1 ∧ Ex cy f0 f1 ∧ (fI f1 a0 1 = fI f0 a0 1 + 1 ∧ r = fI f0 a0 1 ∧ RK f0 f1 a0)) := by
  refine Ci.enter (cc := cX7_keepSpare) (n := 1) rfl (plainFor_of_name (by decide)) (Nat.le_of_ble_eq_true rfl) ?_
  intro p e s m below meth c ls A hx hb hr hts hown hlocks hnm hml hK hA hAe hw hZ hl
  have hown : s.vm.findClass RX7 = some m.cls := hown
  have hl : lv_has ls 1 [(0, .ref a0)] := hl
  have hN : ZN s := (zo.2.2.2.2 _ _ _ hZ).2
  have hE : Ex cy f0 f0 := Ex.refl cy f0
  have bs : 0 ≤ fI f0 a0 1 ∧ fI f0 a0 1 ≤ 12 := hg.1 _ m_a0 5 1 o_a0
  refine lv_aload_n hx hb dX7_keepSpare_0 rfl (lv_at hl 0 rfl) ?_
  refine lv_aload_n hx hb dX7_keepSpare_1 rfl (lv_at hl 0 rfl) ?_
  refine q_geti (ci := 5) (C := RX7) (T := TX7) (N := 2) hx hb hts (fun w h => List.mem_cons_of_mem _ (mfX70 w h)) hown hK hw m_a0 o_a0 rfl 1 (by decide) (hts _ (List.mem_cons_of_mem _ (mr2 _ (List.mem_of_getElem? (i := 4) rfl)))) (fun _ h => h) rfl dX7_keepSpare_2 (fun x_1 lx_1 ux_1 ex_1 => ?_)
  have bx_1 : 0 ≤ x_1 ∧ x_1 ≤ 12 := by rw [ex_1]; exact hg.1 _ m_a0 5 1 o_a0
  refine q_iconst hx hb dX7_keepSpare_5 ?_
  first | refine q_iadd hx hb dX7_keepSpare_6 ⟨by omega, by omega⟩ (fun x_2 lx_2 ux_2 ex_2 => ?_) | refine q_iaddw hx hb dX7_keepSpare_6 (fun x_2 lx_2 ux_2 _ => ?_)
  refine lv_aload_n hx hb dX7_keepSpare_7 rfl (lv_at hl 0 rfl) ?_
  obtain ⟨r_3, er_3, m_r_3, o_r_3⟩ := (show ∃ r, fR f0 a0 0 = some r ∧ r ∈ L0 ∧ ArR f0 r cy.2.2.2.1 12 from hg.2.1 _ m_a0 5 0 o_a0)
  refine q_getr (ci := 5) (C := RX7) (T := TX7) (N := 2) hx hb hts (fun w h => List.mem_cons_of_mem _ (mfX70 w h)) hown hK hw m_a0 o_a0 rfl 0 (by decide) (hts _ (List.mem_cons_of_mem _ (mr2 _ (List.mem_of_getElem? (i := 3) rfl)))) (fun _ h => h) rfl er_3 dX7_keepSpare_8 ?_
  refine q_alenR hx hb hK hw m_r_3 3 o_r_3 rfl dX7_keepSpare_11 ?_
  refine q_min hx hb (hml.trans hl.1.symm) hown (hts _ (List.mem_cons_of_mem _ (mr6 _ (List.mem_of_getElem? (i := 21) rfl)))) (hts _ (List.mem_cons_of_mem _ (mr6 _ (List.mem_of_getElem? (i := 13) rfl)))) (hts _ (List.mem_cons_of_mem _ (mr6 _ (List.mem_of_getElem? (i := 14) rfl)))) (hts _ (List.mem_cons_of_mem _ (mr6 _ (List.mem_of_getElem? (i := 15) rfl)))) (Nat.le_of_ble_eq_true rfl) (Nat.le_of_ble_eq_true rfl) (Nat.le_of_ble_eq_true rfl) (Nat.le_of_ble_eq_true rfl) ⟨lx_2, ux_2⟩ ⟨by decide, by decide⟩ dX7_keepSpare_12 (fun x_4 lx_4 ux_4 ex_4 => ?_)
  refine q_puti (ci := 5) (C := RX7) (T := TX7) (N := 2) hx hb hts (fun w h => List.mem_cons_of_mem _ (mfX70 w h)) hown hK hw m_a0 o_a0 rfl 1 (by decide) (hts _ (List.mem_cons_of_mem _ (mr2 _ (List.mem_of_getElem? (i := 4) rfl)))) (fun _ h => h) tyX7 tyX7_ok nmX7 rfl (ty := .int) (by decide +kernel) rfl rfl dX7_keepSpare_15 (fun H locs hw => ?_)
  have oo := o_a0
  obtain ⟨f_5, ef_5⟩ : ∃ g : Nat → va_E, g = pU f0 a0 1 (.int (iI x_4)) := ⟨_, rfl⟩
  have hX : Ex cy f0 f_5 := by rw [ef_5]; exact Ex_pU oo rfl rfl (by decide)
  have hg : GI cy L0 f_5 := by rw [ef_5]; exact hg.putI oo rfl ⟨lx_4, ux_4⟩ (by show 0 ≤ x_4 ∧ x_4 ≤ 12; omega)
  rw [← ef_5] at hw
  have hE := hE.trans hX
  have o_a0 := hX.1.1 _ _ o_a0
  have vf_5 : fI f_5 a0 1 = x_4 := by rw [ef_5]; exact fI_pU_self oo rfl ⟨lx_4, ux_4⟩
  have hk := RK.put oo ef_5
  refine lv_aload_n hx hb dX7_keepSpare_18 rfl (lv_at hl 0 rfl) ?_
  refine q_geti (ci := 5) (C := RX7) (T := TX7) (N := 2) hx hb hts (fun w h => List.mem_cons_of_mem _ (mfX70 w h)) hown hK hw m_a0 o_a0 rfl 1 (by decide) (hts _ (List.mem_cons_of_mem _ (mr2 _ (List.mem_of_getElem? (i := 4) rfl)))) (fun _ h => h) rfl dX7_keepSpare_19 (fun x_6 lx_6 ux_6 ex_6 => ?_)
  have bx_6 : 0 ≤ x_6 ∧ x_6 ≤ 12 := by rw [ex_6]; exact hg.1 _ m_a0 5 1 o_a0
  refine q_iconst hx hb dX7_keepSpare_22 ?_
  first | refine q_isub hx hb dX7_keepSpare_23 ⟨by omega, by omega⟩ (fun x_7 lx_7 ux_7 ex_7 => ?_) | refine q_isubw hx hb dX7_keepSpare_23 (fun x_7 lx_7 ux_7 _ => ?_)
  exact q_ret_i hx hb hr hlocks hK hAe hw ⟨lx_7, ux_7⟩ (Nat.le_of_ble_eq_true rfl) (Nat.le_of_ble_eq_true rfl) dX7_keepSpare_24 (by exact ⟨rfl, hg, hE, by omega, by omega, hk⟩)
set_option maxHeartbeats 4000000 in
set_option maxRecDepth 100000 in
theorem c_X7_copyFrom_f {Z : Zt} (zo : Zok Z) (l : Launch) (D : va_G) (cy : Cy) (L0 : List Nat) (f0 : Nat → va_E) (a0 : Nat) (a1 : Nat) (m_a0 : a0 ∈ L0) (o_a0 : Ob f0 a0 5) (m_a1 : a1 ∈ L0) (o_a1 : Ob f0 a1 5) (hg : GI cy L0 f0) (rq : Int → Nat) (ro : Int → Nat) (g : Int → Int) (mm : Int) (sf : SF f0 a0 rq) (sr : SR f0 a1 ro g mm) (m0 : 0 ≤ mm) (m1 : mm ≤ 12) (dj : ∀ i j : Int, 0 ≤ i → i < 12 → 0 ≤ j → j < 12 → rq i ≠ ro j) (ne : a1 ≠ a0) : Cv Z l yX7_copyFrom (Cond.code yX7_copyFrom cX7_copyFrom 3 none :: TB) ({ frames := 2, cells := 0, slots := 0, locals := 81 } : Room) 0 0 D (tq cy) [.ref a0, .ref a1] L0 f0 (fun (L1 : List Nat) (f1 : Nat → va_E) => L0 = L1 ∧ GI cy L0 f1 ∧ Ex cy f0 f1 ∧ (SR f1 a0 rq g mm ∧ SR f1 a1 ro g mm ∧ Fo (PS a0 rq) cy f0 f1 ∧ Fr0 f0 f1)) := by
  refine Cv.enter (cc := cX7_copyFrom) (n := 3) rfl (plainFor_of_name (by decide)) (Nat.le_of_ble_eq_true rfl) ?_
  intro p e s m below meth c ls A hx hb hr hts hown hlocks hnm hml hK hA hAe hw hZ hl
  have hown : s.vm.findClass RX7 = some m.cls := hown
  have hl : lv_has ls 3 [(0, .ref a0), (1, .ref a1)] := hl
  have hN : ZN s := (zo.2.2.2.2 _ _ _ hZ).2
  have hE : Ex cy f0 f0 := Ex.refl cy f0
  have s9 := sr.2.1
  refine lv_aload_n hx hb dX7_copyFrom_0 rfl (lv_at hl 0 rfl) ?_
  refine lv_aload_n hx hb dX7_copyFrom_1 rfl (lv_at hl 1 rfl) ?_
  refine q_geti (ci := 5) (C := RX7) (T := TX7) (N := 2) hx hb hts (fun w h => List.mem_cons_of_mem _ (mfX70 w h)) hown hK hw m_a1 o_a1 rfl 1 (by decide) (hts _ (List.mem_cons_of_mem _ (mr2 _ (List.mem_of_getElem? (i := 4) rfl)))) (fun _ h => h) rfl dX7_copyFrom_2 (fun x_1 lx_1 ux_1 ex_1 => ?_)
  have bx_1 : 0 ≤ x_1 ∧ x_1 ≤ 12 := by rw [ex_1]; exact hg.1 _ m_a1 5 1 o_a1
  refine q_puti (ci := 5) (C := RX7) (T := TX7) (N := 2) hx hb hts (fun w h => List.mem_cons_of_mem _ (mfX70 w h)) hown hK hw m_a0 o_a0 rfl 1 (by decide) (hts _ (List.mem_cons_of_mem _ (mr2 _ (List.mem_of_getElem? (i := 4) rfl)))) (fun _ h => h) tyX7 tyX7_ok nmX7 rfl (ty := .int) (by decide +kernel) rfl rfl dX7_copyFrom_5 (fun H locs hw => ?_)
  have oo := o_a0
  obtain ⟨f_2, ef_2⟩ : ∃ g : Nat → va_E, g = pU f0 a0 1 (.int (iI x_1)) := ⟨_, rfl⟩
  have hX : Ex cy f0 f_2 := by rw [ef_2]; exact Ex_pU oo rfl rfl (by decide)
  have hg : GI cy L0 f_2 := by rw [ef_2]; exact hg.putI oo rfl ⟨lx_1, ux_1⟩ (by show 0 ≤ x_1 ∧ x_1 ≤ 12; omega)
  rw [← ef_2] at hw
  have hE := hE.trans hX
  have o_a0 := hX.1.1 _ _ o_a0
  have o_a1 := hX.1.1 _ _ o_a1
  have vf_2 : fI f_2 a0 1 = x_1 := by rw [ef_2]; exact fI_pU_self oo rfl ⟨lx_1, ux_1⟩
  have cf := CF.start (cy := cy) (rq := rq) oo ne sr m1 ⟨by omega, by omega⟩ (by omega) ef_2
  refine q_iconst hx hb dX7_copyFrom_8 ?_
  refine lv_istore_n (lv' := [(2, .int (iI 0)), (0, .ref a0), (1, .ref a1)]) hx hb dX7_copyFrom_9 rfl hl (by decide) rfl (fun ls hl => ?_)
  have J10 : ∀ (n10 : Nat) (y2_10 : Int) (ly2_10 : -2147483648 ≤ y2_10) (uy2_10 : y2_10 ≤ 2147483647) (L : List Nat) (fw10 : Nat → va_E) (hg : GI cy L0 fw10) (hE : Ex cy f0 fw10) (o_a0 : Ob fw10 a0 5) (o_a1 : Ob fw10 a1 5) (i1 : 0 ≤ y2_10) (i2 : y2_10 ≤ mm) (cf : CF cy f0 fw10 a0 a1 rq ro g mm y2_10) (hn10 : ((2147483647 : Int) - y2_10).toNat < n10) (H : Heap) (locs : List Loc) (ls : Array Slot) (hw : Wd D A s.heap L0 fw10 H locs) (hl : lv_has ls 3 [(0, .ref a0), (1, .ref a1), (2, .int (iI y2_10))]), W p l e ({ frames := 2, cells := 0, slots := 0, locals := 81 } : Room) s m ([.ref a0, .ref a1] : List Value).toArray below meth c H locs (0) (0) (MQ below (Qv D (tq cy) L0 f0 s.heap.size (fun (L1 : List Nat) (f1 : Nat → va_E) => L0 = L1 ∧ GI cy L0 f1 ∧ Ex cy f0 f1 ∧ (SR f1 a0 rq g mm ∧ SR f1 a1 ro g mm ∧ Fo (PS a0 rq) cy f0 f1 ∧ Fr0 f0 f1))) ([.ref a0, .ref a1] : List Value).toArray s 0 0 A) (F0 m 10 ls []) := by
    intro n10
    induction n10 with
    | zero => intro y2_10 ly2_10 uy2_10 L fw10 hg hE o_a0 o_a1 i1 i2 cf hn10; exact absurd hn10 (Nat.not_lt_zero _)
    | succ n10 ih10 =>
      intro y2_10 ly2_10 uy2_10 L fw10 hg hE o_a0 o_a1 i1 i2 cf hn10 H locs ls hw hl
      refine lv_iload_n hx hb dX7_copyFrom_10 rfl (lv_at hl 2 rfl) ?_
      refine lv_aload_n hx hb dX7_copyFrom_11 rfl (lv_at hl 0 rfl) ?_
      refine q_geti (ci := 5) (C := RX7) (T := TX7) (N := 2) hx hb hts (fun w h => List.mem_cons_of_mem _ (mfX70 w h)) hown hK hw m_a0 o_a0 rfl 1 (by decide) (hts _ (List.mem_cons_of_mem _ (mr2 _ (List.mem_of_getElem? (i := 4) rfl)))) (fun _ h => h) rfl dX7_copyFrom_12 (fun x_3 lx_3 ux_3 ex_3 => ?_)
      have bx_3 : 0 ≤ x_3 ∧ x_3 ≤ 12 := by rw [ex_3]; exact hg.1 _ m_a0 5 1 o_a0
      have s12 : x_3 = mm := ex_3.trans cf.2.2.1
      refine q_icmp_ge (tgt := 39) hx hb dX7_copyFrom_15 (by decide) ⟨ly2_10, uy2_10⟩ ⟨lx_3, ux_3⟩ (fun c15 => ?_) (fun c15 => ?_)
      · exact q_ret_v hx hb hr hlocks hK hAe hw (Nat.le_of_ble_eq_true rfl) (Nat.le_of_ble_eq_true rfl) dX7_copyFrom_39 (by exact ⟨rfl, hg, hE, cf.done sf o_a0 (by omega)⟩)
      · refine lv_aload_n hx hb dX7_copyFrom_18 rfl (lv_at hl 0 rfl) ?_
        obtain ⟨r_4, er_4, m_r_4, o_r_4⟩ := (show ∃ r, fR fw10 a0 0 = some r ∧ r ∈ L0 ∧ ArR fw10 r cy.2.2.2.1 12 from hg.2.1 _ m_a0 5 0 o_a0)
        refine q_getr (ci := 5) (C := RX7) (T := TX7) (N := 2) hx hb hts (fun w h => List.mem_cons_of_mem _ (mfX70 w h)) hown hK hw m_a0 o_a0 rfl 0 (by decide) (hts _ (List.mem_cons_of_mem _ (mr2 _ (List.mem_of_getElem? (i := 3) rfl)))) (fun _ h => h) rfl er_4 dX7_copyFrom_19 ?_
        have er19 := er_4
        refine lv_iload_n hx hb dX7_copyFrom_22 rfl (lv_at hl 2 rfl) ?_
        obtain ⟨r_5, er_5, m_r_5, o_r_5⟩ := hg.2.2.1 _ m_r_4 y2_10 o_r_4 (by omega) (by omega)
        refine q_aald hx hb hK hw m_r_4 3 o_r_4 rfl ⟨ly2_10, uy2_10⟩ (by omega) (by omega) er_5 dX7_copyFrom_23 ?_
        show W _ _ _ _ _ _ _ _ _ _ _ _ _ _ _ (F0 m 24 ls (.ref r_5 :: []))
        have gx := cf.row sf er19 er_5 (by omega) (by omega)
        have ox := o_r_5
        refine lv_aload_n hx hb dX7_copyFrom_24 rfl (lv_at hl 1 rfl) ?_
        obtain ⟨r_6, er_6, m_r_6, o_r_6⟩ := (show ∃ r, fR fw10 a1 0 = some r ∧ r ∈ L0 ∧ ArR fw10 r cy.2.2.2.1 12 from hg.2.1 _ m_a1 5 0 o_a1)
        refine q_getr (ci := 5) (C := RX7) (T := TX7) (N := 2) hx hb hts (fun w h => List.mem_cons_of_mem _ (mfX70 w h)) hown hK hw m_a1 o_a1 rfl 0 (by decide) (hts _ (List.mem_cons_of_mem _ (mr2 _ (List.mem_of_getElem? (i := 3) rfl)))) (fun _ h => h) rfl er_6 dX7_copyFrom_25 ?_
        have er25 := er_6
        refine lv_iload_n hx hb dX7_copyFrom_28 rfl (lv_at hl 2 rfl) ?_
        obtain ⟨r_7, er_7, m_r_7, o_r_7⟩ := hg.2.2.1 _ m_r_6 y2_10 o_r_6 (by omega) (by omega)
        refine q_aald hx hb hK hw m_r_6 3 o_r_6 rfl ⟨ly2_10, uy2_10⟩ (by omega) (by omega) er_7 dX7_copyFrom_29 ?_
        show W _ _ _ _ _ _ _ _ _ _ _ _ _ _ _ (F0 m 30 ls (.ref r_7 :: [.ref r_5]))
        have gy := cf.2.2.2.2.1.row ⟨_, er25, er_7⟩ (by omega) (by omega)
        have nxy := cf_ne dj gx gy (by omega) (by omega)
        have o09 := o_a0
        have o19 := o_a1
        refine q_call_v hA hK hw (va_runV (As := [.ref r_7]) (rest := []) ⟨hx, hb, hml, hown, hts⟩ (c_X0_copyFrom_f zo l D cy L0 fw10 r_5 r_7 m_r_5 o_r_5 m_r_7 o_r_7 hg nxy _) (cwV 1 hts (gT (inV (mr44 _ (List.mem_of_getElem? (i := 22) rfl)) (mr40 _ (List.mem_of_getElem? (i := 16) rfl)) (mr40 _ (List.mem_of_getElem? (i := 17) rfl)) (mr2 _ (List.mem_of_getElem? (i := 9) rfl)) (mr40 _ (List.mem_of_getElem? (i := 18) rfl)))) rfl rfl rfl (by decide +kernel) ⟨Nat.le_of_ble_eq_true rfl, Nat.le_of_ble_eq_true rfl⟩) (Wd.preV zo hA hZ hw hK m_r_5 o_r_5 rfl) rfl rfl hl.1 rfl (lv_room (Nat.le_of_ble_eq_true rfl)) dX7_copyFrom_30 ⟨Nat.le_of_ble_eq_true rfl, Nat.le_of_ble_eq_true rfl⟩) (fun L1 f_9 H locs ex_8 hw => ?_)
        obtain ⟨rfl, hg, hX, ex_8⟩ := ex_8
        have hE := hE.trans hX
        have o_a0 := hX.1.1 _ _ o_a0
        have o_a1 := hX.1.1 _ _ o_a1
        obtain ⟨z1, z2, z3⟩ := ex_8
        have cf' := cf.step (k' := y2_10 + 1) sf dj o09 o19 gx gy ox (by omega) (by omega) m1 z1 z2 z3 rfl
        obtain ⟨x_10, lx_10, ux_10, hx_10, ex_10⟩ := q_inc y2_10 (1)
        try (replace ex_10 : x_10 = y2_10 + (1) := by omega)
        refine lv_iinc (v := iI x_10) (lv' := [(2, .int (iI x_10)), (0, .ref a0), (1, .ref a1)]) hx hb dX7_copyFrom_33 hl (k := 2) rfl hx_10 (by decide) rfl (fun ls hl => ?_)
        refine lv_goto (tgt := 10) hx hb dX7_copyFrom_36 (by decide) ?_
        exact ih10 x_10 lx_10 ux_10 L0 f_9 hg hE o_a0 o_a1 (by omega) (by omega) (by first | exact cf | exact cf_arg cf' (by omega) | fail "none") (by omega) _ _ _ hw (lv_sub hl [1, 2, 0] rfl)
  exact J10 ((((2147483647 : Int) - 0).toNat) + 1) 0 (by decide) (by decide) L0 f_2 hg hE o_a0 o_a1 (by omega) (by omega) (by first | exact cf | exact cf_arg cf' (by omega) | fail "none") (by omega) _ _ _ hw (lv_sub hl [1, 2, 0] rfl)
