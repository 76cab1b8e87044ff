/-! ===== the start, the end of a tape, the law's onAt ===== -/
theorem aI_ofc {f g : Nat → va_E} {a : Nat} {j : Int} (e : g a = f a) : aI g a j = aI f a j := by unfold aI; rw [e]
theorem aI_new (f : Nat → va_E) (q n : Nat) (cA : ClassId) (j : Int) : aI (va_up f q (.inl (cA, n, .inl (fun _ => 0)))) q j = 0 := by unfold aI; rw [va_up_self]; rfl
set_option maxHeartbeats 4000000 in
set_option maxRecDepth 100000 in
theorem c_X9_end_t {Z : Zt} (zo : Zok Z) (l : Launch) (D : va_G) (cy : Cy) (L0 : List Nat) (f0 : Nat → va_E) (a0 : Nat) (x1 : Int) (lx1 : -2147483648 ≤ x1) (ux1 : x1 ≤ 2147483647) (m_a0 : a0 ∈ L0) (o_a0 : Ob f0 a0 7) (hg : GI cy L0 f0) : Ci Z l yX9_end (Cond.code yX9_end cX9_end 2 (some .int) :: TB) ({ frames := 0, cells := 0, slots := 0, locals := 0 } : Room) 0 0 D (tq cy) [.ref a0, .int (iI x1)] L0 f0 (fun (r : Int) (L1 : List Nat) (f1 : Nat → va_E) => L0 = L1 ∧ GI cy L0 f1 ∧ Ey cy f0 f1 ∧ ((r = -1 ∧ (x1 < 0 ∨ fI f0 a0 1 < x1) ∧ f1 = f0) ∨ (0 ≤ x1 ∧ x1 ≤ fI f0 a0 1 ∧ r = x1 ∧ fI f1 a0 1 = x1 ∧ FT f0 f1 a0 a0))) := by
  refine Ci.enter (cc := cX9_end) (n := 2) rfl (plainFor_of_name (by decide)) (Nat.le_of_ble_eq_true rfl) ?_
  intro p e s m below meth c ls A hx hb hr hts hown hlocks hnm hml hK hA hAe hw hZ hl
  have hown : s.vm.findClass RX9 = some m.cls := hown
  have hl : lv_has ls 2 [(0, .ref a0), (1, .int (iI x1))] := hl
  have hN : ZN s := (zo.2.2.2.2 _ _ _ hZ).2
  have hE : Ey cy f0 f0 := Ey.refl cy f0
  refine lv_iload_n hx hb dX9_end_0 rfl (lv_at hl 1 rfl) ?_
  refine q_if_lt (tgt := 12) hx hb dX9_end_1 (by decide) ⟨lx1, ux1⟩ (fun c1 => ?_) (fun c1 => ?_)
  · refine q_iconst hx hb dX9_end_12 ?_
    exact q_ret_i hx hb hr hlocks hK hAe hw ⟨by decide, by decide⟩ (Nat.le_of_ble_eq_true rfl) (Nat.le_of_ble_eq_true rfl) dX9_end_13 (by exact ⟨rfl, hg, hE, Or.inl ⟨by omega, by omega, rfl⟩⟩)
  · refine lv_iload_n hx hb dX9_end_4 rfl (lv_at hl 1 rfl) ?_
    refine lv_aload_n hx hb dX9_end_5 rfl (lv_at hl 0 rfl) ?_
    refine q_geti (ci := 7) (C := RX9) (T := TX9) (N := 4) hx hb hts (fun w h => List.mem_cons_of_mem _ (mfX90 w h)) hown hK hw m_a0 o_a0 rfl 1 (by decide) (hts _ (List.mem_cons_of_mem _ (mr1 _ (List.mem_of_getElem? (i := 16) rfl)))) (fun _ h => h) rfl dX9_end_6 (fun x_1 lx_1 ux_1 ex_1 => ?_)
    have bx_1 : 0 ≤ x_1 ∧ x_1 ≤ 168 := by rw [ex_1]; exact hg.1 _ m_a0 7 1 o_a0
    refine q_icmp_le (tgt := 14) hx hb dX9_end_9 (by decide) ⟨lx1, ux1⟩ ⟨lx_1, ux_1⟩ (fun c9 => ?_) (fun c9 => ?_)
    · refine lv_aload_n hx hb dX9_end_14 rfl (lv_at hl 0 rfl) ?_
      refine lv_iload_n hx hb dX9_end_15 rfl (lv_at hl 1 rfl) ?_
      refine q_puti (ci := 7) (C := RX9) (T := TX9) (N := 4) hx hb hts (fun w h => List.mem_cons_of_mem _ (mfX90 w h)) hown hK hw m_a0 o_a0 rfl 1 (by decide) (hts _ (List.mem_cons_of_mem _ (mr1 _ (List.mem_of_getElem? (i := 16) rfl)))) (fun _ h => h) tyX9 tyX9_ok nmX9 rfl (ty := .int) (by decide +kernel) rfl rfl dX9_end_16 (fun H locs hw => ?_)
      have oo := o_a0
      obtain ⟨f_2, ef_2⟩ : ∃ g : Nat → va_E, g = pU f0 a0 1 (.int (iI x1)) := ⟨_, rfl⟩
      have hX : Ey cy f0 f_2 := by rw [ef_2]; exact Ey_pU oo rfl
      have hg : GI cy L0 f_2 := by rw [ef_2]; exact hg.putI oo rfl ⟨lx1, ux1⟩ (by show 0 ≤ x1 ∧ x1 ≤ 168; omega)
      rw [← ef_2] at hw
      have hE := hE.trans hX
      have o_a0 := hX.1.1 _ _ o_a0
      have vf_2 : fI f_2 a0 1 = x1 := by rw [ef_2]; exact fI_pU_self oo rfl ⟨lx1, ux1⟩
      refine lv_iload_n hx hb dX9_end_19 rfl (lv_at hl 1 rfl) ?_
      exact q_ret_i hx hb hr hlocks hK hAe hw ⟨lx1, ux1⟩ (Nat.le_of_ble_eq_true rfl) (Nat.le_of_ble_eq_true rfl) dX9_end_20 (by exact ⟨rfl, hg, hE, Or.inr ⟨by omega, by omega, by omega, vf_2, (FT.refl f0 a0 a0).pU ef_2⟩⟩)
    · refine q_iconst hx hb dX9_end_12 ?_
      exact q_ret_i hx hb hr hlocks hK hAe hw ⟨by decide, by decide⟩ (Nat.le_of_ble_eq_true rfl) (Nat.le_of_ble_eq_true rfl) dX9_end_13 (by exact ⟨rfl, hg, hE, Or.inl ⟨by omega, by omega, rfl⟩⟩)
set_option maxHeartbeats 4000000 in
set_option maxRecDepth 100000 in
theorem c_X10_init_t {Z : Zt} (zo : Zok Z) (l : Launch) (D : va_G) (cy : Cy) (L0 : List Nat) (f0 : Nat → va_E) (a0 : Nat) (ad : Nat → Nat) (m_a0 : a0 ∈ L0) (o_a0 : Ob f0 a0 8) (i5 : fI f0 a0 5 = 0) (i9 : fI f0 a0 9 = 0) (i15 : fI f0 a0 15 = 0) : Cv Z l yX10_init (Cond.code yX10_init cX10_init 6 none :: TB) ({ frames := 1, cells := 14, slots := 388021, locals := 21 } : Room) 14 388021 D (tq cy) [.ref a0] L0 f0 (fun (L1 : List Nat) (f1 : Nat → va_E) => ∃ ad : Nat → Nat, MS cy L1 f1 a0 ad ∧ MV f1 a0 ad ∧ MI f1 a0 ad ∧ DT f1 ad 36525 ∧ fI f1 a0 9 = 0 ∧ fI f1 a0 15 = 0 ∧ fI f1 a0 5 = 0 ∧ aI f1 (ad 7) 0 = -1 ∧ aI f1 (ad 7) 1 = -1 ∧ ∀ i : Int, aI f1 (ad 8) i = 0) := by
  refine Cv.enter (cc := cX10_init) (n := 6) rfl (plainFor_of_name (by decide)) (Nat.le_of_ble_eq_true rfl) ?_
  intro p e s m below meth c ls A hx hb hr hts hown hlocks hnm hml hK hA hAe hw hZ hl
  have hown : s.vm.findClass RX10 = some m.cls := hown
  have hl : lv_has ls 6 [(0, .ref a0)] := hl
  have hN : ZN s := (zo.2.2.2.2 _ _ _ hZ).2
  have hp : MSp cy [] L0 f0 a0 ad := ⟨m_a0, o_a0, fun _ h => absurd h List.not_mem_nil, fun _ h => absurd h List.not_mem_nil⟩
  refine lv_aload_n hx hb dX10_init_0 rfl (lv_at hl 0 rfl) ?_
  refine W.objInit hx hb hown (hts _ (List.mem_cons_of_mem _ (mr3 _ (List.mem_of_getElem? (i := 8) rfl)))) (hts _ (List.mem_cons_of_mem _ (mr1 _ (List.mem_of_getElem? (i := 12) rfl)))) (hts _ (List.mem_cons_of_mem _ (mr1 _ (List.mem_of_getElem? (i := 13) rfl)))) rfl (by rw [hml]; exact hl.1) rfl dX10_init_1 (Nat.le_of_ble_eq_true rfl) (Nat.le_of_ble_eq_true rfl) ?_
  refine W.eq (g2 := F0 m 4 ls []) rfl ?_
  refine lv_aload_n hx hb dX10_init_4 rfl (lv_at hl 0 rfl) ?_
  refine q_ldc (n := 36525) hx hb hown (hts _ (List.mem_cons_of_mem _ (mr3 _ (List.mem_of_getElem? (i := 9) rfl)))) rfl dX10_init_5 ?_
  refine q_newI (n := 36525) (cA := cy.2.1) hx hb (hts _ (List.mem_cons_of_mem _ (mr3 _ (List.mem_of_getElem? (i := 1) rfl)))) rfl rfl 1 rfl hK hw hA (by decide) (by decide +kernel) (Nat.le_of_ble_eq_true rfl) (Nat.le_of_ble_eq_true rfl) dX10_init_7 (fun q_1 H n_q_1 hw => ?_)
  obtain ⟨f_2, ef_2⟩ : ∃ g : Nat → va_E, g = va_up f0 q_1 (.inl (cy.2.1, 36525, .inl (fun _ => 0))) := ⟨_, rfl⟩
  rw [← ef_2] at hw
  have hq : ∀ x ∈ L0, f_2 x = f0 x := fun x h => by rw [ef_2]; exact va_up_ne _ _ (fun z => n_q_1 (z ▸ h))
  have m_q_1 : q_1 ∈ L0 ++ [q_1] := List.mem_append_right _ (List.mem_singleton.mpr rfl)
  have o_q_1 : ArI f_2 q_1 cy.2.1 36525 := by rw [ef_2]; exact ⟨_, va_up_self _ _ _⟩
  have ma : a0 ∈ (L0 ++ [q_1]) := List.mem_append_left _ hp.1
  have oa : Ob f_2 a0 8 := Ob_of (hq a0 hp.1) hp.2.1
  refine q_putFr (ci := 8) (C := RX10) (T := TX10) (N := 26) hx hb hts (fun w h => List.mem_cons_of_mem _ (mfX100 w h)) hown hK hw ma oa rfl 0 (by decide) (hts _ (List.mem_cons_of_mem _ (mr3 _ (List.mem_of_getElem? (i := 10) rfl)))) (fun _ h => h) tyX10 tyX10_ok nmX10 rfl hnm rfl (ty := tyX10 0) (by decide +kernel) rfl rfl rfl dX10_init_9 (fun H locs hw => ?_)
  have hp := hp.step (K := 0) (q := q_1) n_q_1 hq o_q_1 rfl (by decide)
  obtain ⟨f_3, ef_3⟩ : ∃ g : Nat → va_E, g = pU f_2 a0 0 (.ref q_1) := ⟨_, rfl⟩
  rw [← ef_3] at hw hp
  obtain ⟨ad_4, ead_4⟩ : ∃ z : Nat → Nat, z = va_up ad 0 q_1 := ⟨_, rfl⟩
  rw [← ead_4] at hp
  have i5 : fI f_3 a0 5 = 0 := Eq.trans (by rw [ef_3]; exact fI_pU (Or.inr (by decide))) ((fI_of (k := 5) (hq a0 (by first | exact m_a0 | exact hm0))).trans i5)
  have i9 : fI f_3 a0 9 = 0 := Eq.trans (by rw [ef_3]; exact fI_pU (Or.inr (by decide))) ((fI_of (k := 9) (hq a0 (by first | exact m_a0 | exact hm0))).trans i9)
  have i15 : fI f_3 a0 15 = 0 := Eq.trans (by rw [ef_3]; exact fI_pU (Or.inr (by decide))) ((fI_of (k := 15) (hq a0 (by first | exact m_a0 | exact hm0))).trans i15)
  have hm0 := hp.1
  refine lv_aload_n hx hb dX10_init_12 rfl (lv_at hl 0 rfl) ?_
  refine q_ldc (n := 36525) hx hb hown (hts _ (List.mem_cons_of_mem _ (mr3 _ (List.mem_of_getElem? (i := 9) rfl)))) rfl dX10_init_13 ?_
  refine q_newI (n := 36525) (cA := cy.2.1) hx hb (hts _ (List.mem_cons_of_mem _ (mr3 _ (List.mem_of_getElem? (i := 1) rfl)))) rfl rfl 1 rfl hK hw hA (by decide) (by decide +kernel) (Nat.le_of_ble_eq_true rfl) (Nat.le_of_ble_eq_true rfl) dX10_init_15 (fun q_5 H n_q_5 hw => ?_)
  obtain ⟨f_6, ef_6⟩ : ∃ g : Nat → va_E, g = va_up f_3 q_5 (.inl (cy.2.1, 36525, .inl (fun _ => 0))) := ⟨_, rfl⟩
  rw [← ef_6] at hw
  have hq : ∀ x ∈ (L0 ++ [q_1]), f_6 x = f_3 x := fun x h => by rw [ef_6]; exact va_up_ne _ _ (fun z => n_q_5 (z ▸ h))
  have m_q_5 : q_5 ∈ (L0 ++ [q_1]) ++ [q_5] := List.mem_append_right _ (List.mem_singleton.mpr rfl)
  have o_q_5 : ArI f_6 q_5 cy.2.1 36525 := by rw [ef_6]; exact ⟨_, va_up_self _ _ _⟩
  have ma : a0 ∈ ((L0 ++ [q_1]) ++ [q_5]) := List.mem_append_left _ hp.1
  have oa : Ob f_6 a0 8 := Ob_of (hq a0 hp.1) hp.2.1
  refine q_putFr (ci := 8) (C := RX10) (T := TX10) (N := 26) hx hb hts (fun w h => List.mem_cons_of_mem _ (mfX100 w h)) hown hK hw ma oa rfl 1 (by decide) (hts _ (List.mem_cons_of_mem _ (mr3 _ (List.mem_of_getElem? (i := 11) rfl)))) (fun _ h => h) tyX10 tyX10_ok nmX10 rfl hnm rfl (ty := tyX10 1) (by decide +kernel) rfl rfl rfl dX10_init_17 (fun H locs hw => ?_)
  have hp := hp.step (K := 1) (q := q_5) n_q_5 hq o_q_5 rfl (by decide)
  obtain ⟨f_7, ef_7⟩ : ∃ g : Nat → va_E, g = pU f_6 a0 1 (.ref q_5) := ⟨_, rfl⟩
  rw [← ef_7] at hw hp
  obtain ⟨ad_8, ead_8⟩ : ∃ z : Nat → Nat, z = va_up ad_4 1 q_5 := ⟨_, rfl⟩
  rw [← ead_8] at hp
  have i5 : fI f_7 a0 5 = 0 := Eq.trans (by rw [ef_7]; exact fI_pU (Or.inr (by decide))) ((fI_of (k := 5) (hq a0 (by first | exact m_a0 | exact hm0))).trans i5)
  have i9 : fI f_7 a0 9 = 0 := Eq.trans (by rw [ef_7]; exact fI_pU (Or.inr (by decide))) ((fI_of (k := 9) (hq a0 (by first | exact m_a0 | exact hm0))).trans i9)
  have i15 : fI f_7 a0 15 = 0 := Eq.trans (by rw [ef_7]; exact fI_pU (Or.inr (by decide))) ((fI_of (k := 15) (hq a0 (by first | exact m_a0 | exact hm0))).trans i15)
  have hm0 := hp.1
  refine lv_aload_n hx hb dX10_init_20 rfl (lv_at hl 0 rfl) ?_
  refine q_ldc (n := 36525) hx hb hown (hts _ (List.mem_cons_of_mem _ (mr3 _ (List.mem_of_getElem? (i := 9) rfl)))) rfl dX10_init_21 ?_
  refine q_newI (n := 36525) (cA := cy.2.1) hx hb (hts _ (List.mem_cons_of_mem _ (mr3 _ (List.mem_of_getElem? (i := 1) rfl)))) rfl rfl 1 rfl hK hw hA (by decide) (by decide +kernel) (Nat.le_of_ble_eq_true rfl) (Nat.le_of_ble_eq_true rfl) dX10_init_23 (fun q_9 H n_q_9 hw => ?_)
  obtain ⟨f_10, ef_10⟩ : ∃ g : Nat → va_E, g = va_up f_7 q_9 (.inl (cy.2.1, 36525, .inl (fun _ => 0))) := ⟨_, rfl⟩
  rw [← ef_10] at hw
  have hq : ∀ x ∈ ((L0 ++ [q_1]) ++ [q_5]), f_10 x = f_7 x := fun x h => by rw [ef_10]; exact va_up_ne _ _ (fun z => n_q_9 (z ▸ h))
  have m_q_9 : q_9 ∈ ((L0 ++ [q_1]) ++ [q_5]) ++ [q_9] := List.mem_append_right _ (List.mem_singleton.mpr rfl)
  have o_q_9 : ArI f_10 q_9 cy.2.1 36525 := by rw [ef_10]; exact ⟨_, va_up_self _ _ _⟩
  have ma : a0 ∈ (((L0 ++ [q_1]) ++ [q_5]) ++ [q_9]) := List.mem_append_left _ hp.1
  have oa : Ob f_10 a0 8 := Ob_of (hq a0 hp.1) hp.2.1
  refine q_putFr (ci := 8) (C := RX10) (T := TX10) (N := 26) hx hb hts (fun w h => List.mem_cons_of_mem _ (mfX100 w h)) hown hK hw ma oa rfl 2 (by decide) (hts _ (List.mem_cons_of_mem _ (mr3 _ (List.mem_of_getElem? (i := 12) rfl)))) (fun _ h => h) tyX10 tyX10_ok nmX10 rfl hnm rfl (ty := tyX10 2) (by decide +kernel) rfl rfl rfl dX10_init_25 (fun H locs hw => ?_)
  have hp := hp.step (K := 2) (q := q_9) n_q_9 hq o_q_9 rfl (by decide)
  obtain ⟨f_11, ef_11⟩ : ∃ g : Nat → va_E, g = pU f_10 a0 2 (.ref q_9) := ⟨_, rfl⟩
  rw [← ef_11] at hw hp
  obtain ⟨ad_12, ead_12⟩ : ∃ z : Nat → Nat, z = va_up ad_8 2 q_9 := ⟨_, rfl⟩
  rw [← ead_12] at hp
  have i5 : fI f_11 a0 5 = 0 := Eq.trans (by rw [ef_11]; exact fI_pU (Or.inr (by decide))) ((fI_of (k := 5) (hq a0 (by first | exact m_a0 | exact hm0))).trans i5)
  have i9 : fI f_11 a0 9 = 0 := Eq.trans (by rw [ef_11]; exact fI_pU (Or.inr (by decide))) ((fI_of (k := 9) (hq a0 (by first | exact m_a0 | exact hm0))).trans i9)
  have i15 : fI f_11 a0 15 = 0 := Eq.trans (by rw [ef_11]; exact fI_pU (Or.inr (by decide))) ((fI_of (k := 15) (hq a0 (by first | exact m_a0 | exact hm0))).trans i15)
  have hm0 := hp.1
  refine lv_aload_n hx hb dX10_init_28 rfl (lv_at hl 0 rfl) ?_
  refine q_ldc (n := 36525) hx hb hown (hts _ (List.mem_cons_of_mem _ (mr3 _ (List.mem_of_getElem? (i := 9) rfl)))) rfl dX10_init_29 ?_
  refine q_newI (n := 36525) (cA := cy.2.1) hx hb (hts _ (List.mem_cons_of_mem _ (mr3 _ (List.mem_of_getElem? (i := 1) rfl)))) rfl rfl 1 rfl hK hw hA (by decide) (by decide +kernel) (Nat.le_of_ble_eq_true rfl) (Nat.le_of_ble_eq_true rfl) dX10_init_31 (fun q_13 H n_q_13 hw => ?_)
  obtain ⟨f_14, ef_14⟩ : ∃ g : Nat → va_E, g = va_up f_11 q_13 (.inl (cy.2.1, 36525, .inl (fun _ => 0))) := ⟨_, rfl⟩
  rw [← ef_14] at hw
  have hq : ∀ x ∈ (((L0 ++ [q_1]) ++ [q_5]) ++ [q_9]), f_14 x = f_11 x := fun x h => by rw [ef_14]; exact va_up_ne _ _ (fun z => n_q_13 (z ▸ h))
  have m_q_13 : q_13 ∈ (((L0 ++ [q_1]) ++ [q_5]) ++ [q_9]) ++ [q_13] := List.mem_append_right _ (List.mem_singleton.mpr rfl)
  have o_q_13 : ArI f_14 q_13 cy.2.1 36525 := by rw [ef_14]; exact ⟨_, va_up_self _ _ _⟩
  have ma : a0 ∈ ((((L0 ++ [q_1]) ++ [q_5]) ++ [q_9]) ++ [q_13]) := List.mem_append_left _ hp.1
  have oa : Ob f_14 a0 8 := Ob_of (hq a0 hp.1) hp.2.1
  refine q_putFr (ci := 8) (C := RX10) (T := TX10) (N := 26) hx hb hts (fun w h => List.mem_cons_of_mem _ (mfX100 w h)) hown hK hw ma oa rfl 3 (by decide) (hts _ (List.mem_cons_of_mem _ (mr3 _ (List.mem_of_getElem? (i := 13) rfl)))) (fun _ h => h) tyX10 tyX10_ok nmX10 rfl hnm rfl (ty := tyX10 3) (by decide +kernel) rfl rfl rfl dX10_init_33 (fun H locs hw => ?_)
  have hp := hp.step (K := 3) (q := q_13) n_q_13 hq o_q_13 rfl (by decide)
  obtain ⟨f_15, ef_15⟩ : ∃ g : Nat → va_E, g = pU f_14 a0 3 (.ref q_13) := ⟨_, rfl⟩
  rw [← ef_15] at hw hp
  obtain ⟨ad_16, ead_16⟩ : ∃ z : Nat → Nat, z = va_up ad_12 3 q_13 := ⟨_, rfl⟩
  rw [← ead_16] at hp
  have i5 : fI f_15 a0 5 = 0 := Eq.trans (by rw [ef_15]; exact fI_pU (Or.inr (by decide))) ((fI_of (k := 5) (hq a0 (by first | exact m_a0 | exact hm0))).trans i5)
  have i9 : fI f_15 a0 9 = 0 := Eq.trans (by rw [ef_15]; exact fI_pU (Or.inr (by decide))) ((fI_of (k := 9) (hq a0 (by first | exact m_a0 | exact hm0))).trans i9)
  have i15 : fI f_15 a0 15 = 0 := Eq.trans (by rw [ef_15]; exact fI_pU (Or.inr (by decide))) ((fI_of (k := 15) (hq a0 (by first | exact m_a0 | exact hm0))).trans i15)
  have hm0 := hp.1
  refine lv_aload_n hx hb dX10_init_36 rfl (lv_at hl 0 rfl) ?_
  refine q_sipush hx hb dX10_init_37 rfl ?_
  refine q_newI (n := 528) (cA := cy.2.1) hx hb (hts _ (List.mem_cons_of_mem _ (mr3 _ (List.mem_of_getElem? (i := 1) rfl)))) rfl rfl 1 rfl hK hw hA (by decide) (by decide +kernel) (Nat.le_of_ble_eq_true rfl) (Nat.le_of_ble_eq_true rfl) dX10_init_40 (fun q_17 H n_q_17 hw => ?_)
  obtain ⟨f_18, ef_18⟩ : ∃ g : Nat → va_E, g = va_up f_15 q_17 (.inl (cy.2.1, 528, .inl (fun _ => 0))) := ⟨_, rfl⟩
  rw [← ef_18] at hw
  have hq : ∀ x ∈ ((((L0 ++ [q_1]) ++ [q_5]) ++ [q_9]) ++ [q_13]), f_18 x = f_15 x := fun x h => by rw [ef_18]; exact va_up_ne _ _ (fun z => n_q_17 (z ▸ h))
  have m_q_17 : q_17 ∈ ((((L0 ++ [q_1]) ++ [q_5]) ++ [q_9]) ++ [q_13]) ++ [q_17] := List.mem_append_right _ (List.mem_singleton.mpr rfl)
  have o_q_17 : ArI f_18 q_17 cy.2.1 528 := by rw [ef_18]; exact ⟨_, va_up_self _ _ _⟩
  have ma : a0 ∈ (((((L0 ++ [q_1]) ++ [q_5]) ++ [q_9]) ++ [q_13]) ++ [q_17]) := List.mem_append_left _ hp.1
  have oa : Ob f_18 a0 8 := Ob_of (hq a0 hp.1) hp.2.1
  refine q_putFr (ci := 8) (C := RX10) (T := TX10) (N := 26) hx hb hts (fun w h => List.mem_cons_of_mem _ (mfX100 w h)) hown hK hw ma oa rfl 4 (by decide) (hts _ (List.mem_cons_of_mem _ (mr3 _ (List.mem_of_getElem? (i := 14) rfl)))) (fun _ h => h) tyX10 tyX10_ok nmX10 rfl hnm rfl (ty := tyX10 4) (by decide +kernel) rfl rfl rfl dX10_init_42 (fun H locs hw => ?_)
  have hp := hp.step (K := 4) (q := q_17) n_q_17 hq o_q_17 rfl (by decide)
  obtain ⟨f_19, ef_19⟩ : ∃ g : Nat → va_E, g = pU f_18 a0 4 (.ref q_17) := ⟨_, rfl⟩
  rw [← ef_19] at hw hp
  obtain ⟨ad_20, ead_20⟩ : ∃ z : Nat → Nat, z = va_up ad_16 4 q_17 := ⟨_, rfl⟩
  rw [← ead_20] at hp
  have i5 : fI f_19 a0 5 = 0 := Eq.trans (by rw [ef_19]; exact fI_pU (Or.inr (by decide))) ((fI_of (k := 5) (hq a0 (by first | exact m_a0 | exact hm0))).trans i5)
  have i9 : fI f_19 a0 9 = 0 := Eq.trans (by rw [ef_19]; exact fI_pU (Or.inr (by decide))) ((fI_of (k := 9) (hq a0 (by first | exact m_a0 | exact hm0))).trans i9)
  have i15 : fI f_19 a0 15 = 0 := Eq.trans (by rw [ef_19]; exact fI_pU (Or.inr (by decide))) ((fI_of (k := 15) (hq a0 (by first | exact m_a0 | exact hm0))).trans i15)
  have hm0 := hp.1
  refine lv_aload_n hx hb dX10_init_45 rfl (lv_at hl 0 rfl) ?_
  refine q_sipush hx hb dX10_init_46 rfl ?_
  refine q_newI (n := 1056) (cA := cy.2.1) hx hb (hts _ (List.mem_cons_of_mem _ (mr3 _ (List.mem_of_getElem? (i := 1) rfl)))) rfl rfl 1 rfl hK hw hA (by decide) (by decide +kernel) (Nat.le_of_ble_eq_true rfl) (Nat.le_of_ble_eq_true rfl) dX10_init_49 (fun q_21 H n_q_21 hw => ?_)
  obtain ⟨f_22, ef_22⟩ : ∃ g : Nat → va_E, g = va_up f_19 q_21 (.inl (cy.2.1, 1056, .inl (fun _ => 0))) := ⟨_, rfl⟩
  rw [← ef_22] at hw
  have hq : ∀ x ∈ (((((L0 ++ [q_1]) ++ [q_5]) ++ [q_9]) ++ [q_13]) ++ [q_17]), f_22 x = f_19 x := fun x h => by rw [ef_22]; exact va_up_ne _ _ (fun z => n_q_21 (z ▸ h))
  have m_q_21 : q_21 ∈ (((((L0 ++ [q_1]) ++ [q_5]) ++ [q_9]) ++ [q_13]) ++ [q_17]) ++ [q_21] := List.mem_append_right _ (List.mem_singleton.mpr rfl)
  have o_q_21 : ArI f_22 q_21 cy.2.1 1056 := by rw [ef_22]; exact ⟨_, va_up_self _ _ _⟩
  have ma : a0 ∈ ((((((L0 ++ [q_1]) ++ [q_5]) ++ [q_9]) ++ [q_13]) ++ [q_17]) ++ [q_21]) := List.mem_append_left _ hp.1
  have oa : Ob f_22 a0 8 := Ob_of (hq a0 hp.1) hp.2.1
  refine q_putFr (ci := 8) (C := RX10) (T := TX10) (N := 26) hx hb hts (fun w h => List.mem_cons_of_mem _ (mfX100 w h)) hown hK hw ma oa rfl 6 (by decide) (hts _ (List.mem_cons_of_mem _ (mr3 _ (List.mem_of_getElem? (i := 15) rfl)))) (fun _ h => h) tyX10 tyX10_ok nmX10 rfl hnm rfl (ty := tyX10 6) (by decide +kernel) rfl rfl rfl dX10_init_51 (fun H locs hw => ?_)
  have hp := hp.step (K := 6) (q := q_21) n_q_21 hq o_q_21 rfl (by decide)
  obtain ⟨f_23, ef_23⟩ : ∃ g : Nat → va_E, g = pU f_22 a0 6 (.ref q_21) := ⟨_, rfl⟩
  rw [← ef_23] at hw hp
  obtain ⟨ad_24, ead_24⟩ : ∃ z : Nat → Nat, z = va_up ad_20 6 q_21 := ⟨_, rfl⟩
  rw [← ead_24] at hp
  have i5 : fI f_23 a0 5 = 0 := Eq.trans (by rw [ef_23]; exact fI_pU (Or.inr (by decide))) ((fI_of (k := 5) (hq a0 (by first | exact m_a0 | exact hm0))).trans i5)
  have i9 : fI f_23 a0 9 = 0 := Eq.trans (by rw [ef_23]; exact fI_pU (Or.inr (by decide))) ((fI_of (k := 9) (hq a0 (by first | exact m_a0 | exact hm0))).trans i9)
  have i15 : fI f_23 a0 15 = 0 := Eq.trans (by rw [ef_23]; exact fI_pU (Or.inr (by decide))) ((fI_of (k := 15) (hq a0 (by first | exact m_a0 | exact hm0))).trans i15)
  have hm0 := hp.1
  refine lv_aload_n hx hb dX10_init_54 rfl (lv_at hl 0 rfl) ?_
  refine q_iconst hx hb dX10_init_55 ?_
  refine q_newI (n := 2) (cA := cy.2.1) hx hb (hts _ (List.mem_cons_of_mem _ (mr3 _ (List.mem_of_getElem? (i := 1) rfl)))) rfl rfl 1 rfl hK hw hA (by decide) (by decide +kernel) (Nat.le_of_ble_eq_true rfl) (Nat.le_of_ble_eq_true rfl) dX10_init_56 (fun q_25 H n_q_25 hw => ?_)
  obtain ⟨f_26, ef_26⟩ : ∃ g : Nat → va_E, g = va_up f_23 q_25 (.inl (cy.2.1, 2, .inl (fun _ => 0))) := ⟨_, rfl⟩
  rw [← ef_26] at hw
  have hq : ∀ x ∈ ((((((L0 ++ [q_1]) ++ [q_5]) ++ [q_9]) ++ [q_13]) ++ [q_17]) ++ [q_21]), f_26 x = f_23 x := fun x h => by rw [ef_26]; exact va_up_ne _ _ (fun z => n_q_25 (z ▸ h))
  have m_q_25 : q_25 ∈ ((((((L0 ++ [q_1]) ++ [q_5]) ++ [q_9]) ++ [q_13]) ++ [q_17]) ++ [q_21]) ++ [q_25] := List.mem_append_right _ (List.mem_singleton.mpr rfl)
  have o_q_25 : ArI f_26 q_25 cy.2.1 2 := by rw [ef_26]; exact ⟨_, va_up_self _ _ _⟩
  refine lv_dup hx hb dX10_init_58 rfl ?_
  refine q_iconst hx hb dX10_init_59 ?_
  refine q_iconst hx hb dX10_init_60 ?_
  refine q_iast hx hb hK hw m_q_25 1 o_q_25 rfl ⟨by decide, by decide⟩ (by decide) (by decide) dX10_init_61 (fun H locs hw => ?_)
  obtain ⟨f_27, ef_27⟩ : ∃ g : Nat → va_E, g = aU f_26 q_25 0 (iI ((-1))) := ⟨_, rfl⟩
  rw [← ef_27] at hw
  have hq : ∀ x ∈ ((((((L0 ++ [q_1]) ++ [q_5]) ++ [q_9]) ++ [q_13]) ++ [q_17]) ++ [q_21]), f_27 x = f_23 x := fun x h => Eq.trans (by rw [ef_27]; exact aU_ne (fun z => n_q_25 (z ▸ h))) (hq x h)
  have y70 : aI f_27 q_25 0 = ((-1)) := by rw [ef_27]; exact aI_aU_self o_q_25 ⟨by decide, by decide⟩
  have o_q_25 : ArI f_27 q_25 cy.2.1 2 := by rw [ef_27]; exact ArI_aU o_q_25 o_q_25
  refine lv_dup hx hb dX10_init_62 rfl ?_
  refine q_iconst hx hb dX10_init_63 ?_
  refine q_iconst hx hb dX10_init_64 ?_
  refine q_iast hx hb hK hw m_q_25 1 o_q_25 rfl ⟨by decide, by decide⟩ (by decide) (by decide) dX10_init_65 (fun H locs hw => ?_)
  obtain ⟨f_28, ef_28⟩ : ∃ g : Nat → va_E, g = aU f_27 q_25 1 (iI ((-1))) := ⟨_, rfl⟩
  rw [← ef_28] at hw
  have hq : ∀ x ∈ ((((((L0 ++ [q_1]) ++ [q_5]) ++ [q_9]) ++ [q_13]) ++ [q_17]) ++ [q_21]), f_28 x = f_23 x := fun x h => Eq.trans (by rw [ef_28]; exact aU_ne (fun z => n_q_25 (z ▸ h))) (hq x h)
  have y71 : aI f_28 q_25 1 = ((-1)) := by rw [ef_28]; exact aI_aU_self o_q_25 ⟨by decide, by decide⟩
  have y70 : aI f_28 q_25 0 = -1 := Eq.trans (by rw [ef_28]; exact aI_aU_nj o_q_25 (by decide) (by decide) (by decide)) y70
  have o_q_25 : ArI f_28 q_25 cy.2.1 2 := by rw [ef_28]; exact ArI_aU o_q_25 o_q_25
  have ma : a0 ∈ (((((((L0 ++ [q_1]) ++ [q_5]) ++ [q_9]) ++ [q_13]) ++ [q_17]) ++ [q_21]) ++ [q_25]) := List.mem_append_left _ hp.1
  have oa : Ob f_28 a0 8 := Ob_of (hq a0 hp.1) hp.2.1
  refine q_putFr (ci := 8) (C := RX10) (T := TX10) (N := 26) hx hb hts (fun w h => List.mem_cons_of_mem _ (mfX100 w h)) hown hK hw ma oa rfl 7 (by decide) (hts _ (List.mem_cons_of_mem _ (mr3 _ (List.mem_of_getElem? (i := 16) rfl)))) (fun _ h => h) tyX10 tyX10_ok nmX10 rfl hnm rfl (ty := tyX10 7) (by decide +kernel) rfl rfl rfl dX10_init_66 (fun H locs hw => ?_)
  have hp := hp.step (K := 7) (q := q_25) n_q_25 hq o_q_25 rfl (by decide)
  obtain ⟨f_29, ef_29⟩ : ∃ g : Nat → va_E, g = pU f_28 a0 7 (.ref q_25) := ⟨_, rfl⟩
  rw [← ef_29] at hw hp
  obtain ⟨ad_30, ead_30⟩ : ∃ z : Nat → Nat, z = va_up ad_24 7 q_25 := ⟨_, rfl⟩
  rw [← ead_30] at hp
  have i5 : fI f_29 a0 5 = 0 := Eq.trans (by rw [ef_29]; exact fI_pU (Or.inr (by decide))) ((fI_of (k := 5) (hq a0 (by first | exact m_a0 | exact hm0))).trans i5)
  have i9 : fI f_29 a0 9 = 0 := Eq.trans (by rw [ef_29]; exact fI_pU (Or.inr (by decide))) ((fI_of (k := 9) (hq a0 (by first | exact m_a0 | exact hm0))).trans i9)
  have i15 : fI f_29 a0 15 = 0 := Eq.trans (by rw [ef_29]; exact fI_pU (Or.inr (by decide))) ((fI_of (k := 15) (hq a0 (by first | exact m_a0 | exact hm0))).trans i15)
  have z70 : aI f_29 q_25 0 = -1 := Eq.trans (by rw [ef_29]; exact aI_pU oa) y70
  have z71 : aI f_29 q_25 1 = -1 := Eq.trans (by rw [ef_29]; exact aI_pU oa) y71
  have hd7 : ad_30 7 = q_25 := by rw [ead_30]; exact va_up_self _ _ _
  have h7m : q_25 ∈ (((((((L0 ++ [q_1]) ++ [q_5]) ++ [q_9]) ++ [q_13]) ++ [q_17]) ++ [q_21]) ++ [q_25]) := m_q_25
  have hm0 := hp.1
  refine lv_aload_n hx hb dX10_init_69 rfl (lv_at hl 0 rfl) ?_
  refine q_sipush hx hb dX10_init_70 rfl ?_
  refine q_newI (n := 168) (cA := cy.2.1) hx hb (hts _ (List.mem_cons_of_mem _ (mr3 _ (List.mem_of_getElem? (i := 1) rfl)))) rfl rfl 1 rfl hK hw hA (by decide) (by decide +kernel) (Nat.le_of_ble_eq_true rfl) (Nat.le_of_ble_eq_true rfl) dX10_init_73 (fun q_31 H n_q_31 hw => ?_)
  obtain ⟨f_32, ef_32⟩ : ∃ g : Nat → va_E, g = va_up f_29 q_31 (.inl (cy.2.1, 168, .inl (fun _ => 0))) := ⟨_, rfl⟩
  rw [← ef_32] at hw
  have hq : ∀ x ∈ (((((((L0 ++ [q_1]) ++ [q_5]) ++ [q_9]) ++ [q_13]) ++ [q_17]) ++ [q_21]) ++ [q_25]), f_32 x = f_29 x := fun x h => by rw [ef_32]; exact va_up_ne _ _ (fun z => n_q_31 (z ▸ h))
  have m_q_31 : q_31 ∈ (((((((L0 ++ [q_1]) ++ [q_5]) ++ [q_9]) ++ [q_13]) ++ [q_17]) ++ [q_21]) ++ [q_25]) ++ [q_31] := List.mem_append_right _ (List.mem_singleton.mpr rfl)
  have o_q_31 : ArI f_32 q_31 cy.2.1 168 := by rw [ef_32]; exact ⟨_, va_up_self _ _ _⟩
  have ma : a0 ∈ ((((((((L0 ++ [q_1]) ++ [q_5]) ++ [q_9]) ++ [q_13]) ++ [q_17]) ++ [q_21]) ++ [q_25]) ++ [q_31]) := List.mem_append_left _ hp.1
  have oa : Ob f_32 a0 8 := Ob_of (hq a0 hp.1) hp.2.1
  refine q_putFr (ci := 8) (C := RX10) (T := TX10) (N := 26) hx hb hts (fun w h => List.mem_cons_of_mem _ (mfX100 w h)) hown hK hw ma oa rfl 8 (by decide) (hts _ (List.mem_cons_of_mem _ (mr3 _ (List.mem_of_getElem? (i := 17) rfl)))) (fun _ h => h) tyX10 tyX10_ok nmX10 rfl hnm rfl (ty := tyX10 8) (by decide +kernel) rfl rfl rfl dX10_init_75 (fun H locs hw => ?_)
  have hp := hp.step (K := 8) (q := q_31) n_q_31 hq o_q_31 rfl (by decide)
  obtain ⟨f_33, ef_33⟩ : ∃ g : Nat → va_E, g = pU f_32 a0 8 (.ref q_31) := ⟨_, rfl⟩
  rw [← ef_33] at hw hp
  obtain ⟨ad_34, ead_34⟩ : ∃ z : Nat → Nat, z = va_up ad_30 8 q_31 := ⟨_, rfl⟩
  rw [← ead_34] at hp
  have i5 : fI f_33 a0 5 = 0 := Eq.trans (by rw [ef_33]; exact fI_pU (Or.inr (by decide))) ((fI_of (k := 5) (hq a0 (by first | exact m_a0 | exact hm0))).trans i5)
  have i9 : fI f_33 a0 9 = 0 := Eq.trans (by rw [ef_33]; exact fI_pU (Or.inr (by decide))) ((fI_of (k := 9) (hq a0 (by first | exact m_a0 | exact hm0))).trans i9)
  have i15 : fI f_33 a0 15 = 0 := Eq.trans (by rw [ef_33]; exact fI_pU (Or.inr (by decide))) ((fI_of (k := 15) (hq a0 (by first | exact m_a0 | exact hm0))).trans i15)
  have z70 : aI f_33 q_25 0 = -1 := Eq.trans (show aI f_33 q_25 0 = aI f_32 q_25 0 by rw [ef_33]; exact aI_pU oa) (Eq.trans (show aI f_32 q_25 0 = aI f_29 q_25 0 by unfold aI; rw [hq _ h7m]) z70)
  have z71 : aI f_33 q_25 1 = -1 := Eq.trans (show aI f_33 q_25 1 = aI f_32 q_25 1 by rw [ef_33]; exact aI_pU oa) (Eq.trans (show aI f_32 q_25 1 = aI f_29 q_25 1 by unfold aI; rw [hq _ h7m]) z71)
  have z8 : ∀ i : Int, aI f_33 q_31 i = 0 := fun i => Eq.trans (show aI f_33 q_31 i = aI f_32 q_31 i by rw [ef_33]; exact aI_pU oa) (by rw [ef_32]; exact aI_new _ _ _ _ _)
  have hd7 : ad_34 7 = q_25 := Eq.trans (by rw [ead_34]; exact va_up_ne _ _ (by decide)) hd7
  have hd8 : ad_34 8 = q_31 := by rw [ead_34]; exact va_up_self _ _ _
  have h7m : q_25 ∈ ((((((((L0 ++ [q_1]) ++ [q_5]) ++ [q_9]) ++ [q_13]) ++ [q_17]) ++ [q_21]) ++ [q_25]) ++ [q_31]) := List.mem_append_left _ h7m
  have h8m : q_31 ∈ ((((((((L0 ++ [q_1]) ++ [q_5]) ++ [q_9]) ++ [q_13]) ++ [q_17]) ++ [q_21]) ++ [q_25]) ++ [q_31]) := m_q_31
  have hm0 := hp.1
  refine lv_aload_n hx hb dX10_init_78 rfl (lv_at hl 0 rfl) ?_
  refine q_ldc (n := 73050) hx hb hown (hts _ (List.mem_cons_of_mem _ (mr3 _ (List.mem_of_getElem? (i := 18) rfl)))) rfl dX10_init_79 ?_
  refine q_newI (n := 73050) (cA := cy.2.1) hx hb (hts _ (List.mem_cons_of_mem _ (mr3 _ (List.mem_of_getElem? (i := 1) rfl)))) rfl rfl 1 rfl hK hw hA (by decide) (by decide +kernel) (Nat.le_of_ble_eq_true rfl) (Nat.le_of_ble_eq_true rfl) dX10_init_81 (fun q_35 H n_q_35 hw => ?_)
  obtain ⟨f_36, ef_36⟩ : ∃ g : Nat → va_E, g = va_up f_33 q_35 (.inl (cy.2.1, 73050, .inl (fun _ => 0))) := ⟨_, rfl⟩
  rw [← ef_36] at hw
  have hq : ∀ x ∈ ((((((((L0 ++ [q_1]) ++ [q_5]) ++ [q_9]) ++ [q_13]) ++ [q_17]) ++ [q_21]) ++ [q_25]) ++ [q_31]), f_36 x = f_33 x := fun x h => by rw [ef_36]; exact va_up_ne _ _ (fun z => n_q_35 (z ▸ h))
  have m_q_35 : q_35 ∈ ((((((((L0 ++ [q_1]) ++ [q_5]) ++ [q_9]) ++ [q_13]) ++ [q_17]) ++ [q_21]) ++ [q_25]) ++ [q_31]) ++ [q_35] := List.mem_append_right _ (List.mem_singleton.mpr rfl)
  have o_q_35 : ArI f_36 q_35 cy.2.1 73050 := by rw [ef_36]; exact ⟨_, va_up_self _ _ _⟩
  have ma : a0 ∈ (((((((((L0 ++ [q_1]) ++ [q_5]) ++ [q_9]) ++ [q_13]) ++ [q_17]) ++ [q_21]) ++ [q_25]) ++ [q_31]) ++ [q_35]) := List.mem_append_left _ hp.1
  have oa : Ob f_36 a0 8 := Ob_of (hq a0 hp.1) hp.2.1
  refine q_putFr (ci := 8) (C := RX10) (T := TX10) (N := 26) hx hb hts (fun w h => List.mem_cons_of_mem _ (mfX100 w h)) hown hK hw ma oa rfl 11 (by decide) (hts _ (List.mem_cons_of_mem _ (mr3 _ (List.mem_of_getElem? (i := 19) rfl)))) (fun _ h => h) tyX10 tyX10_ok nmX10 rfl hnm rfl (ty := tyX10 11) (by decide +kernel) rfl rfl rfl dX10_init_83 (fun H locs hw => ?_)
  have hp := hp.step (K := 11) (q := q_35) n_q_35 hq o_q_35 rfl (by decide)
  obtain ⟨f_37, ef_37⟩ : ∃ g : Nat → va_E, g = pU f_36 a0 11 (.ref q_35) := ⟨_, rfl⟩
  rw [← ef_37] at hw hp
  obtain ⟨ad_38, ead_38⟩ : ∃ z : Nat → Nat, z = va_up ad_34 11 q_35 := ⟨_, rfl⟩
  rw [← ead_38] at hp
  have i5 : fI f_37 a0 5 = 0 := Eq.trans (by rw [ef_37]; exact fI_pU (Or.inr (by decide))) ((fI_of (k := 5) (hq a0 (by first | exact m_a0 | exact hm0))).trans i5)
  have i9 : fI f_37 a0 9 = 0 := Eq.trans (by rw [ef_37]; exact fI_pU (Or.inr (by decide))) ((fI_of (k := 9) (hq a0 (by first | exact m_a0 | exact hm0))).trans i9)
  have i15 : fI f_37 a0 15 = 0 := Eq.trans (by rw [ef_37]; exact fI_pU (Or.inr (by decide))) ((fI_of (k := 15) (hq a0 (by first | exact m_a0 | exact hm0))).trans i15)
  have z70 : aI f_37 q_25 0 = -1 := Eq.trans (show aI f_37 q_25 0 = aI f_36 q_25 0 by rw [ef_37]; exact aI_pU oa) (Eq.trans (show aI f_36 q_25 0 = aI f_33 q_25 0 by unfold aI; rw [hq _ h7m]) z70)
  have z71 : aI f_37 q_25 1 = -1 := Eq.trans (show aI f_37 q_25 1 = aI f_36 q_25 1 by rw [ef_37]; exact aI_pU oa) (Eq.trans (show aI f_36 q_25 1 = aI f_33 q_25 1 by unfold aI; rw [hq _ h7m]) z71)
  have z8 : ∀ i : Int, aI f_37 q_31 i = 0 := fun i => Eq.trans (show aI f_37 q_31 i = aI f_36 q_31 i by rw [ef_37]; exact aI_pU oa) (Eq.trans (show aI f_36 q_31 i = aI f_33 q_31 i by unfold aI; rw [hq _ h8m]) (z8 i))
  have hd7 : ad_38 7 = q_25 := Eq.trans (by rw [ead_38]; exact va_up_ne _ _ (by decide)) hd7
  have hd8 : ad_38 8 = q_31 := Eq.trans (by rw [ead_38]; exact va_up_ne _ _ (by decide)) hd8
  have h7m : q_25 ∈ (((((((((L0 ++ [q_1]) ++ [q_5]) ++ [q_9]) ++ [q_13]) ++ [q_17]) ++ [q_21]) ++ [q_25]) ++ [q_31]) ++ [q_35]) := List.mem_append_left _ h7m
  have h8m : q_31 ∈ (((((((((L0 ++ [q_1]) ++ [q_5]) ++ [q_9]) ++ [q_13]) ++ [q_17]) ++ [q_21]) ++ [q_25]) ++ [q_31]) ++ [q_35]) := List.mem_append_left _ h8m
  have hm0 := hp.1
  refine lv_aload_n hx hb dX10_init_86 rfl (lv_at hl 0 rfl) ?_
  refine q_ldc (n := 73050) hx hb hown (hts _ (List.mem_cons_of_mem _ (mr3 _ (List.mem_of_getElem? (i := 18) rfl)))) rfl dX10_init_87 ?_
  refine q_newI (n := 73050) (cA := cy.2.1) hx hb (hts _ (List.mem_cons_of_mem _ (mr3 _ (List.mem_of_getElem? (i := 1) rfl)))) rfl rfl 1 rfl hK hw hA (by decide) (by decide +kernel) (Nat.le_of_ble_eq_true rfl) (Nat.le_of_ble_eq_true rfl) dX10_init_89 (fun q_39 H n_q_39 hw => ?_)
  obtain ⟨f_40, ef_40⟩ : ∃ g : Nat → va_E, g = va_up f_37 q_39 (.inl (cy.2.1, 73050, .inl (fun _ => 0))) := ⟨_, rfl⟩
  rw [← ef_40] at hw
  have hq : ∀ x ∈ (((((((((L0 ++ [q_1]) ++ [q_5]) ++ [q_9]) ++ [q_13]) ++ [q_17]) ++ [q_21]) ++ [q_25]) ++ [q_31]) ++ [q_35]), f_40 x = f_37 x := fun x h => by rw [ef_40]; exact va_up_ne _ _ (fun z => n_q_39 (z ▸ h))
  have m_q_39 : q_39 ∈ (((((((((L0 ++ [q_1]) ++ [q_5]) ++ [q_9]) ++ [q_13]) ++ [q_17]) ++ [q_21]) ++ [q_25]) ++ [q_31]) ++ [q_35]) ++ [q_39] := List.mem_append_right _ (List.mem_singleton.mpr rfl)
  have o_q_39 : ArI f_40 q_39 cy.2.1 73050 := by rw [ef_40]; exact ⟨_, va_up_self _ _ _⟩
  have ma : a0 ∈ ((((((((((L0 ++ [q_1]) ++ [q_5]) ++ [q_9]) ++ [q_13]) ++ [q_17]) ++ [q_21]) ++ [q_25]) ++ [q_31]) ++ [q_35]) ++ [q_39]) := List.mem_append_left _ hp.1
  have oa : Ob f_40 a0 8 := Ob_of (hq a0 hp.1) hp.2.1
  refine q_putFr (ci := 8) (C := RX10) (T := TX10) (N := 26) hx hb hts (fun w h => List.mem_cons_of_mem _ (mfX100 w h)) hown hK hw ma oa rfl 12 (by decide) (hts _ (List.mem_cons_of_mem _ (mr3 _ (List.mem_of_getElem? (i := 20) rfl)))) (fun _ h => h) tyX10 tyX10_ok nmX10 rfl hnm rfl (ty := tyX10 12) (by decide +kernel) rfl rfl rfl dX10_init_91 (fun H locs hw => ?_)
  have hp := hp.step (K := 12) (q := q_39) n_q_39 hq o_q_39 rfl (by decide)
  obtain ⟨f_41, ef_41⟩ : ∃ g : Nat → va_E, g = pU f_40 a0 12 (.ref q_39) := ⟨_, rfl⟩
  rw [← ef_41] at hw hp
  obtain ⟨ad_42, ead_42⟩ : ∃ z : Nat → Nat, z = va_up ad_38 12 q_39 := ⟨_, rfl⟩
  rw [← ead_42] at hp
  have i5 : fI f_41 a0 5 = 0 := Eq.trans (by rw [ef_41]; exact fI_pU (Or.inr (by decide))) ((fI_of (k := 5) (hq a0 (by first | exact m_a0 | exact hm0))).trans i5)
  have i9 : fI f_41 a0 9 = 0 := Eq.trans (by rw [ef_41]; exact fI_pU (Or.inr (by decide))) ((fI_of (k := 9) (hq a0 (by first | exact m_a0 | exact hm0))).trans i9)
  have i15 : fI f_41 a0 15 = 0 := Eq.trans (by rw [ef_41]; exact fI_pU (Or.inr (by decide))) ((fI_of (k := 15) (hq a0 (by first | exact m_a0 | exact hm0))).trans i15)
  have z70 : aI f_41 q_25 0 = -1 := Eq.trans (show aI f_41 q_25 0 = aI f_40 q_25 0 by rw [ef_41]; exact aI_pU oa) (Eq.trans (show aI f_40 q_25 0 = aI f_37 q_25 0 by unfold aI; rw [hq _ h7m]) z70)
  have z71 : aI f_41 q_25 1 = -1 := Eq.trans (show aI f_41 q_25 1 = aI f_40 q_25 1 by rw [ef_41]; exact aI_pU oa) (Eq.trans (show aI f_40 q_25 1 = aI f_37 q_25 1 by unfold aI; rw [hq _ h7m]) z71)
  have z8 : ∀ i : Int, aI f_41 q_31 i = 0 := fun i => Eq.trans (show aI f_41 q_31 i = aI f_40 q_31 i by rw [ef_41]; exact aI_pU oa) (Eq.trans (show aI f_40 q_31 i = aI f_37 q_31 i by unfold aI; rw [hq _ h8m]) (z8 i))
  have hd7 : ad_42 7 = q_25 := Eq.trans (by rw [ead_42]; exact va_up_ne _ _ (by decide)) hd7
  have hd8 : ad_42 8 = q_31 := Eq.trans (by rw [ead_42]; exact va_up_ne _ _ (by decide)) hd8
  have h7m : q_25 ∈ ((((((((((L0 ++ [q_1]) ++ [q_5]) ++ [q_9]) ++ [q_13]) ++ [q_17]) ++ [q_21]) ++ [q_25]) ++ [q_31]) ++ [q_35]) ++ [q_39]) := List.mem_append_left _ h7m
  have h8m : q_31 ∈ ((((((((((L0 ++ [q_1]) ++ [q_5]) ++ [q_9]) ++ [q_13]) ++ [q_17]) ++ [q_21]) ++ [q_25]) ++ [q_31]) ++ [q_35]) ++ [q_39]) := List.mem_append_left _ h8m
  have hm0 := hp.1
  refine lv_aload_n hx hb dX10_init_94 rfl (lv_at hl 0 rfl) ?_
  refine q_iconst hx hb dX10_init_95 ?_
  refine q_newI (n := 2) (cA := cy.2.1) hx hb (hts _ (List.mem_cons_of_mem _ (mr3 _ (List.mem_of_getElem? (i := 1) rfl)))) rfl rfl 1 rfl hK hw hA (by decide) (by decide +kernel) (Nat.le_of_ble_eq_true rfl) (Nat.le_of_ble_eq_true rfl) dX10_init_96 (fun q_43 H n_q_43 hw => ?_)
  obtain ⟨f_44, ef_44⟩ : ∃ g : Nat → va_E, g = va_up f_41 q_43 (.inl (cy.2.1, 2, .inl (fun _ => 0))) := ⟨_, rfl⟩
  rw [← ef_44] at hw
  have hq : ∀ x ∈ ((((((((((L0 ++ [q_1]) ++ [q_5]) ++ [q_9]) ++ [q_13]) ++ [q_17]) ++ [q_21]) ++ [q_25]) ++ [q_31]) ++ [q_35]) ++ [q_39]), f_44 x = f_41 x := fun x h => by rw [ef_44]; exact va_up_ne _ _ (fun z => n_q_43 (z ▸ h))
  have m_q_43 : q_43 ∈ ((((((((((L0 ++ [q_1]) ++ [q_5]) ++ [q_9]) ++ [q_13]) ++ [q_17]) ++ [q_21]) ++ [q_25]) ++ [q_31]) ++ [q_35]) ++ [q_39]) ++ [q_43] := List.mem_append_right _ (List.mem_singleton.mpr rfl)
  have o_q_43 : ArI f_44 q_43 cy.2.1 2 := by rw [ef_44]; exact ⟨_, va_up_self _ _ _⟩
  have ma : a0 ∈ (((((((((((L0 ++ [q_1]) ++ [q_5]) ++ [q_9]) ++ [q_13]) ++ [q_17]) ++ [q_21]) ++ [q_25]) ++ [q_31]) ++ [q_35]) ++ [q_39]) ++ [q_43]) := List.mem_append_left _ hp.1
  have oa : Ob f_44 a0 8 := Ob_of (hq a0 hp.1) hp.2.1
  refine q_putFr (ci := 8) (C := RX10) (T := TX10) (N := 26) hx hb hts (fun w h => List.mem_cons_of_mem _ (mfX100 w h)) hown hK hw ma oa rfl 13 (by decide) (hts _ (List.mem_cons_of_mem _ (mr3 _ (List.mem_of_getElem? (i := 21) rfl)))) (fun _ h => h) tyX10 tyX10_ok nmX10 rfl hnm rfl (ty := tyX10 13) (by decide +kernel) rfl rfl rfl dX10_init_98 (fun H locs hw => ?_)
  have hp := hp.step (K := 13) (q := q_43) n_q_43 hq o_q_43 rfl (by decide)
  obtain ⟨f_45, ef_45⟩ : ∃ g : Nat → va_E, g = pU f_44 a0 13 (.ref q_43) := ⟨_, rfl⟩
  rw [← ef_45] at hw hp
  obtain ⟨ad_46, ead_46⟩ : ∃ z : Nat → Nat, z = va_up ad_42 13 q_43 := ⟨_, rfl⟩
  rw [← ead_46] at hp
  have i5 : fI f_45 a0 5 = 0 := Eq.trans (by rw [ef_45]; exact fI_pU (Or.inr (by decide))) ((fI_of (k := 5) (hq a0 (by first | exact m_a0 | exact hm0))).trans i5)
  have i9 : fI f_45 a0 9 = 0 := Eq.trans (by rw [ef_45]; exact fI_pU (Or.inr (by decide))) ((fI_of (k := 9) (hq a0 (by first | exact m_a0 | exact hm0))).trans i9)
  have i15 : fI f_45 a0 15 = 0 := Eq.trans (by rw [ef_45]; exact fI_pU (Or.inr (by decide))) ((fI_of (k := 15) (hq a0 (by first | exact m_a0 | exact hm0))).trans i15)
  have z70 : aI f_45 q_25 0 = -1 := Eq.trans (show aI f_45 q_25 0 = aI f_44 q_25 0 by rw [ef_45]; exact aI_pU oa) (Eq.trans (show aI f_44 q_25 0 = aI f_41 q_25 0 by unfold aI; rw [hq _ h7m]) z70)
  have z71 : aI f_45 q_25 1 = -1 := Eq.trans (show aI f_45 q_25 1 = aI f_44 q_25 1 by rw [ef_45]; exact aI_pU oa) (Eq.trans (show aI f_44 q_25 1 = aI f_41 q_25 1 by unfold aI; rw [hq _ h7m]) z71)
  have z8 : ∀ i : Int, aI f_45 q_31 i = 0 := fun i => Eq.trans (show aI f_45 q_31 i = aI f_44 q_31 i by rw [ef_45]; exact aI_pU oa) (Eq.trans (show aI f_44 q_31 i = aI f_41 q_31 i by unfold aI; rw [hq _ h8m]) (z8 i))
  have hd7 : ad_46 7 = q_25 := Eq.trans (by rw [ead_46]; exact va_up_ne _ _ (by decide)) hd7
  have hd8 : ad_46 8 = q_31 := Eq.trans (by rw [ead_46]; exact va_up_ne _ _ (by decide)) hd8
  have h7m : q_25 ∈ (((((((((((L0 ++ [q_1]) ++ [q_5]) ++ [q_9]) ++ [q_13]) ++ [q_17]) ++ [q_21]) ++ [q_25]) ++ [q_31]) ++ [q_35]) ++ [q_39]) ++ [q_43]) := List.mem_append_left _ h7m
  have h8m : q_31 ∈ (((((((((((L0 ++ [q_1]) ++ [q_5]) ++ [q_9]) ++ [q_13]) ++ [q_17]) ++ [q_21]) ++ [q_25]) ++ [q_31]) ++ [q_35]) ++ [q_39]) ++ [q_43]) := List.mem_append_left _ h8m
  have hm0 := hp.1
  refine lv_aload_n hx hb dX10_init_101 rfl (lv_at hl 0 rfl) ?_
  refine q_bipush hx hb dX10_init_102 rfl ?_
  refine q_newI (n := 44) (cA := cy.2.1) hx hb (hts _ (List.mem_cons_of_mem _ (mr3 _ (List.mem_of_getElem? (i := 1) rfl)))) rfl rfl 1 rfl hK hw hA (by decide) (by decide +kernel) (Nat.le_of_ble_eq_true rfl) (Nat.le_of_ble_eq_true rfl) dX10_init_104 (fun q_47 H n_q_47 hw => ?_)
  obtain ⟨f_48, ef_48⟩ : ∃ g : Nat → va_E, g = va_up f_45 q_47 (.inl (cy.2.1, 44, .inl (fun _ => 0))) := ⟨_, rfl⟩
  rw [← ef_48] at hw
  have hq : ∀ x ∈ (((((((((((L0 ++ [q_1]) ++ [q_5]) ++ [q_9]) ++ [q_13]) ++ [q_17]) ++ [q_21]) ++ [q_25]) ++ [q_31]) ++ [q_35]) ++ [q_39]) ++ [q_43]), f_48 x = f_45 x := fun x h => by rw [ef_48]; exact va_up_ne _ _ (fun z => n_q_47 (z ▸ h))
  have m_q_47 : q_47 ∈ (((((((((((L0 ++ [q_1]) ++ [q_5]) ++ [q_9]) ++ [q_13]) ++ [q_17]) ++ [q_21]) ++ [q_25]) ++ [q_31]) ++ [q_35]) ++ [q_39]) ++ [q_43]) ++ [q_47] := List.mem_append_right _ (List.mem_singleton.mpr rfl)
  have o_q_47 : ArI f_48 q_47 cy.2.1 44 := by rw [ef_48]; exact ⟨_, va_up_self _ _ _⟩
  have ma : a0 ∈ ((((((((((((L0 ++ [q_1]) ++ [q_5]) ++ [q_9]) ++ [q_13]) ++ [q_17]) ++ [q_21]) ++ [q_25]) ++ [q_31]) ++ [q_35]) ++ [q_39]) ++ [q_43]) ++ [q_47]) := List.mem_append_left _ hp.1
  have oa : Ob f_48 a0 8 := Ob_of (hq a0 hp.1) hp.2.1
  refine q_putFr (ci := 8) (C := RX10) (T := TX10) (N := 26) hx hb hts (fun w h => List.mem_cons_of_mem _ (mfX100 w h)) hown hK hw ma oa rfl 21 (by decide) (hts _ (List.mem_cons_of_mem _ (mr3 _ (List.mem_of_getElem? (i := 22) rfl)))) (fun _ h => h) tyX10 tyX10_ok nmX10 rfl hnm rfl (ty := tyX10 21) (by decide +kernel) rfl rfl rfl dX10_init_106 (fun H locs hw => ?_)
  have hp := hp.step (K := 21) (q := q_47) n_q_47 hq o_q_47 rfl (by decide)
  obtain ⟨f_49, ef_49⟩ : ∃ g : Nat → va_E, g = pU f_48 a0 21 (.ref q_47) := ⟨_, rfl⟩
  rw [← ef_49] at hw hp
  obtain ⟨ad_50, ead_50⟩ : ∃ z : Nat → Nat, z = va_up ad_46 21 q_47 := ⟨_, rfl⟩
  rw [← ead_50] at hp
  have i5 : fI f_49 a0 5 = 0 := Eq.trans (by rw [ef_49]; exact fI_pU (Or.inr (by decide))) ((fI_of (k := 5) (hq a0 (by first | exact m_a0 | exact hm0))).trans i5)
  have i9 : fI f_49 a0 9 = 0 := Eq.trans (by rw [ef_49]; exact fI_pU (Or.inr (by decide))) ((fI_of (k := 9) (hq a0 (by first | exact m_a0 | exact hm0))).trans i9)
  have i15 : fI f_49 a0 15 = 0 := Eq.trans (by rw [ef_49]; exact fI_pU (Or.inr (by decide))) ((fI_of (k := 15) (hq a0 (by first | exact m_a0 | exact hm0))).trans i15)
  have z70 : aI f_49 q_25 0 = -1 := Eq.trans (show aI f_49 q_25 0 = aI f_48 q_25 0 by rw [ef_49]; exact aI_pU oa) (Eq.trans (show aI f_48 q_25 0 = aI f_45 q_25 0 by unfold aI; rw [hq _ h7m]) z70)
  have z71 : aI f_49 q_25 1 = -1 := Eq.trans (show aI f_49 q_25 1 = aI f_48 q_25 1 by rw [ef_49]; exact aI_pU oa) (Eq.trans (show aI f_48 q_25 1 = aI f_45 q_25 1 by unfold aI; rw [hq _ h7m]) z71)
  have z8 : ∀ i : Int, aI f_49 q_31 i = 0 := fun i => Eq.trans (show aI f_49 q_31 i = aI f_48 q_31 i by rw [ef_49]; exact aI_pU oa) (Eq.trans (show aI f_48 q_31 i = aI f_45 q_31 i by unfold aI; rw [hq _ h8m]) (z8 i))
  have hd7 : ad_50 7 = q_25 := Eq.trans (by rw [ead_50]; exact va_up_ne _ _ (by decide)) hd7
  have hd8 : ad_50 8 = q_31 := Eq.trans (by rw [ead_50]; exact va_up_ne _ _ (by decide)) hd8
  have h7m : q_25 ∈ ((((((((((((L0 ++ [q_1]) ++ [q_5]) ++ [q_9]) ++ [q_13]) ++ [q_17]) ++ [q_21]) ++ [q_25]) ++ [q_31]) ++ [q_35]) ++ [q_39]) ++ [q_43]) ++ [q_47]) := List.mem_append_left _ h7m
  have h8m : q_31 ∈ ((((((((((((L0 ++ [q_1]) ++ [q_5]) ++ [q_9]) ++ [q_13]) ++ [q_17]) ++ [q_21]) ++ [q_25]) ++ [q_31]) ++ [q_35]) ++ [q_39]) ++ [q_43]) ++ [q_47]) := List.mem_append_left _ h8m
  have hm0 := hp.1
  refine lv_aload_n hx hb dX10_init_109 rfl (lv_at hl 0 rfl) ?_
  refine q_sipush hx hb dX10_init_110 rfl ?_
  refine q_newI (n := 3300) (cA := cy.2.1) hx hb (hts _ (List.mem_cons_of_mem _ (mr3 _ (List.mem_of_getElem? (i := 1) rfl)))) rfl rfl 1 rfl hK hw hA (by decide) (by decide +kernel) (Nat.le_of_ble_eq_true rfl) (Nat.le_of_ble_eq_true rfl) dX10_init_113 (fun q_51 H n_q_51 hw => ?_)
  obtain ⟨f_52, ef_52⟩ : ∃ g : Nat → va_E, g = va_up f_49 q_51 (.inl (cy.2.1, 3300, .inl (fun _ => 0))) := ⟨_, rfl⟩
  rw [← ef_52] at hw
  have hq : ∀ x ∈ ((((((((((((L0 ++ [q_1]) ++ [q_5]) ++ [q_9]) ++ [q_13]) ++ [q_17]) ++ [q_21]) ++ [q_25]) ++ [q_31]) ++ [q_35]) ++ [q_39]) ++ [q_43]) ++ [q_47]), f_52 x = f_49 x := fun x h => by rw [ef_52]; exact va_up_ne _ _ (fun z => n_q_51 (z ▸ h))
  have m_q_51 : q_51 ∈ ((((((((((((L0 ++ [q_1]) ++ [q_5]) ++ [q_9]) ++ [q_13]) ++ [q_17]) ++ [q_21]) ++ [q_25]) ++ [q_31]) ++ [q_35]) ++ [q_39]) ++ [q_43]) ++ [q_47]) ++ [q_51] := List.mem_append_right _ (List.mem_singleton.mpr rfl)
  have o_q_51 : ArI f_52 q_51 cy.2.1 3300 := by rw [ef_52]; exact ⟨_, va_up_self _ _ _⟩
  have ma : a0 ∈ (((((((((((((L0 ++ [q_1]) ++ [q_5]) ++ [q_9]) ++ [q_13]) ++ [q_17]) ++ [q_21]) ++ [q_25]) ++ [q_31]) ++ [q_35]) ++ [q_39]) ++ [q_43]) ++ [q_47]) ++ [q_51]) := List.mem_append_left _ hp.1
  have oa : Ob f_52 a0 8 := Ob_of (hq a0 hp.1) hp.2.1
  refine q_putFr (ci := 8) (C := RX10) (T := TX10) (N := 26) hx hb hts (fun w h => List.mem_cons_of_mem _ (mfX100 w h)) hown hK hw ma oa rfl 23 (by decide) (hts _ (List.mem_cons_of_mem _ (mr3 _ (List.mem_of_getElem? (i := 23) rfl)))) (fun _ h => h) tyX10 tyX10_ok nmX10 rfl hnm rfl (ty := tyX10 23) (by decide +kernel) rfl rfl rfl dX10_init_115 (fun H locs hw => ?_)
  have hp := hp.step (K := 23) (q := q_51) n_q_51 hq o_q_51 rfl (by decide)
  obtain ⟨f_53, ef_53⟩ : ∃ g : Nat → va_E, g = pU f_52 a0 23 (.ref q_51) := ⟨_, rfl⟩
  rw [← ef_53] at hw hp
  obtain ⟨ad_54, ead_54⟩ : ∃ z : Nat → Nat, z = va_up ad_50 23 q_51 := ⟨_, rfl⟩
  rw [← ead_54] at hp
  have i5 : fI f_53 a0 5 = 0 := Eq.trans (by rw [ef_53]; exact fI_pU (Or.inr (by decide))) ((fI_of (k := 5) (hq a0 (by first | exact m_a0 | exact hm0))).trans i5)
  have i9 : fI f_53 a0 9 = 0 := Eq.trans (by rw [ef_53]; exact fI_pU (Or.inr (by decide))) ((fI_of (k := 9) (hq a0 (by first | exact m_a0 | exact hm0))).trans i9)
  have i15 : fI f_53 a0 15 = 0 := Eq.trans (by rw [ef_53]; exact fI_pU (Or.inr (by decide))) ((fI_of (k := 15) (hq a0 (by first | exact m_a0 | exact hm0))).trans i15)
  have z70 : aI f_53 q_25 0 = -1 := Eq.trans (show aI f_53 q_25 0 = aI f_52 q_25 0 by rw [ef_53]; exact aI_pU oa) (Eq.trans (show aI f_52 q_25 0 = aI f_49 q_25 0 by unfold aI; rw [hq _ h7m]) z70)
  have z71 : aI f_53 q_25 1 = -1 := Eq.trans (show aI f_53 q_25 1 = aI f_52 q_25 1 by rw [ef_53]; exact aI_pU oa) (Eq.trans (show aI f_52 q_25 1 = aI f_49 q_25 1 by unfold aI; rw [hq _ h7m]) z71)
  have z8 : ∀ i : Int, aI f_53 q_31 i = 0 := fun i => Eq.trans (show aI f_53 q_31 i = aI f_52 q_31 i by rw [ef_53]; exact aI_pU oa) (Eq.trans (show aI f_52 q_31 i = aI f_49 q_31 i by unfold aI; rw [hq _ h8m]) (z8 i))
  have hd7 : ad_54 7 = q_25 := Eq.trans (by rw [ead_54]; exact va_up_ne _ _ (by decide)) hd7
  have hd8 : ad_54 8 = q_31 := Eq.trans (by rw [ead_54]; exact va_up_ne _ _ (by decide)) hd8
  have h7m : q_25 ∈ (((((((((((((L0 ++ [q_1]) ++ [q_5]) ++ [q_9]) ++ [q_13]) ++ [q_17]) ++ [q_21]) ++ [q_25]) ++ [q_31]) ++ [q_35]) ++ [q_39]) ++ [q_43]) ++ [q_47]) ++ [q_51]) := List.mem_append_left _ h7m
  have h8m : q_31 ∈ (((((((((((((L0 ++ [q_1]) ++ [q_5]) ++ [q_9]) ++ [q_13]) ++ [q_17]) ++ [q_21]) ++ [q_25]) ++ [q_31]) ++ [q_35]) ++ [q_39]) ++ [q_43]) ++ [q_47]) ++ [q_51]) := List.mem_append_left _ h8m
  have hm0 := hp.1
  refine lv_aload_n hx hb dX10_init_118 rfl (lv_at hl 0 rfl) ?_
  refine q_ldc (n := 90721) hx hb hown (hts _ (List.mem_cons_of_mem _ (mr4 _ (List.mem_of_getElem? (i := 0) rfl)))) rfl dX10_init_119 ?_
  refine q_newI (n := 90721) (cA := cy.2.2.1) hx hb (hts _ (List.mem_cons_of_mem _ (mr4 _ (List.mem_of_getElem? (i := 1) rfl)))) rfl rfl 2 rfl hK hw hA (by decide) (by decide +kernel) (Nat.le_of_ble_eq_true rfl) (Nat.le_of_ble_eq_true rfl) dX10_init_121 (fun q_55 H n_q_55 hw => ?_)
  obtain ⟨f_56, ef_56⟩ : ∃ g : Nat → va_E, g = va_up f_53 q_55 (.inl (cy.2.2.1, 90721, .inl (fun _ => 0))) := ⟨_, rfl⟩
  rw [← ef_56] at hw
  have hq : ∀ x ∈ (((((((((((((L0 ++ [q_1]) ++ [q_5]) ++ [q_9]) ++ [q_13]) ++ [q_17]) ++ [q_21]) ++ [q_25]) ++ [q_31]) ++ [q_35]) ++ [q_39]) ++ [q_43]) ++ [q_47]) ++ [q_51]), f_56 x = f_53 x := fun x h => by rw [ef_56]; exact va_up_ne _ _ (fun z => n_q_55 (z ▸ h))
  have m_q_55 : q_55 ∈ (((((((((((((L0 ++ [q_1]) ++ [q_5]) ++ [q_9]) ++ [q_13]) ++ [q_17]) ++ [q_21]) ++ [q_25]) ++ [q_31]) ++ [q_35]) ++ [q_39]) ++ [q_43]) ++ [q_47]) ++ [q_51]) ++ [q_55] := List.mem_append_right _ (List.mem_singleton.mpr rfl)
  have o_q_55 : ArI f_56 q_55 cy.2.2.1 90721 := by rw [ef_56]; exact ⟨_, va_up_self _ _ _⟩
  have ma : a0 ∈ ((((((((((((((L0 ++ [q_1]) ++ [q_5]) ++ [q_9]) ++ [q_13]) ++ [q_17]) ++ [q_21]) ++ [q_25]) ++ [q_31]) ++ [q_35]) ++ [q_39]) ++ [q_43]) ++ [q_47]) ++ [q_51]) ++ [q_55]) := List.mem_append_left _ hp.1
  have oa : Ob f_56 a0 8 := Ob_of (hq a0 hp.1) hp.2.1
  refine q_putFr (ci := 8) (C := RX10) (T := TX10) (N := 26) hx hb hts (fun w h => List.mem_cons_of_mem _ (mfX100 w h)) hown hK hw ma oa rfl 25 (by decide) (hts _ (List.mem_cons_of_mem _ (mr4 _ (List.mem_of_getElem? (i := 2) rfl)))) (fun _ h => h) tyX10 tyX10_ok nmX10 rfl hnm rfl (ty := tyX10 25) (by decide +kernel) rfl rfl rfl dX10_init_123 (fun H locs hw => ?_)
  have hp := hp.step (K := 25) (q := q_55) n_q_55 hq o_q_55 rfl (by decide)
  obtain ⟨f_57, ef_57⟩ : ∃ g : Nat → va_E, g = pU f_56 a0 25 (.ref q_55) := ⟨_, rfl⟩
  rw [← ef_57] at hw hp
  obtain ⟨ad_58, ead_58⟩ : ∃ z : Nat → Nat, z = va_up ad_54 25 q_55 := ⟨_, rfl⟩
  rw [← ead_58] at hp
  have i5 : fI f_57 a0 5 = 0 := Eq.trans (by rw [ef_57]; exact fI_pU (Or.inr (by decide))) ((fI_of (k := 5) (hq a0 (by first | exact m_a0 | exact hm0))).trans i5)
  have i9 : fI f_57 a0 9 = 0 := Eq.trans (by rw [ef_57]; exact fI_pU (Or.inr (by decide))) ((fI_of (k := 9) (hq a0 (by first | exact m_a0 | exact hm0))).trans i9)
  have i15 : fI f_57 a0 15 = 0 := Eq.trans (by rw [ef_57]; exact fI_pU (Or.inr (by decide))) ((fI_of (k := 15) (hq a0 (by first | exact m_a0 | exact hm0))).trans i15)
  have z70 : aI f_57 q_25 0 = -1 := Eq.trans (show aI f_57 q_25 0 = aI f_56 q_25 0 by rw [ef_57]; exact aI_pU oa) (Eq.trans (show aI f_56 q_25 0 = aI f_53 q_25 0 by unfold aI; rw [hq _ h7m]) z70)
  have z71 : aI f_57 q_25 1 = -1 := Eq.trans (show aI f_57 q_25 1 = aI f_56 q_25 1 by rw [ef_57]; exact aI_pU oa) (Eq.trans (show aI f_56 q_25 1 = aI f_53 q_25 1 by unfold aI; rw [hq _ h7m]) z71)
  have z8 : ∀ i : Int, aI f_57 q_31 i = 0 := fun i => Eq.trans (show aI f_57 q_31 i = aI f_56 q_31 i by rw [ef_57]; exact aI_pU oa) (Eq.trans (show aI f_56 q_31 i = aI f_53 q_31 i by unfold aI; rw [hq _ h8m]) (z8 i))
  have hd7 : ad_58 7 = q_25 := Eq.trans (by rw [ead_58]; exact va_up_ne _ _ (by decide)) hd7
  have hd8 : ad_58 8 = q_31 := Eq.trans (by rw [ead_58]; exact va_up_ne _ _ (by decide)) hd8
  have h7m : q_25 ∈ ((((((((((((((L0 ++ [q_1]) ++ [q_5]) ++ [q_9]) ++ [q_13]) ++ [q_17]) ++ [q_21]) ++ [q_25]) ++ [q_31]) ++ [q_35]) ++ [q_39]) ++ [q_43]) ++ [q_47]) ++ [q_51]) ++ [q_55]) := List.mem_append_left _ h7m
  have h8m : q_31 ∈ ((((((((((((((L0 ++ [q_1]) ++ [q_5]) ++ [q_9]) ++ [q_13]) ++ [q_17]) ++ [q_21]) ++ [q_25]) ++ [q_31]) ++ [q_35]) ++ [q_39]) ++ [q_43]) ++ [q_47]) ++ [q_51]) ++ [q_55]) := List.mem_append_left _ h8m
  have hm0 := hp.1
  have hs : MS cy ((((((((((((((L0 ++ [q_1]) ++ [q_5]) ++ [q_9]) ++ [q_13]) ++ [q_17]) ++ [q_21]) ++ [q_25]) ++ [q_31]) ++ [q_35]) ++ [q_39]) ++ [q_43]) ++ [q_47]) ++ [q_51]) ++ [q_55]) f_57 a0 ad_58 := hp.full (by decide)
  have m70 : aI f_57 (ad_58 7) 0 = -1 := by rw [hd7]; exact z70
  have m71 : aI f_57 (ad_58 7) 1 = -1 := by rw [hd7]; exact z71
  have m8 : ∀ i : Int, aI f_57 (ad_58 8) i = 0 := fun i => by rw [hd8]; exact z8 i
  clear hp z70 z71 hd7 z8 hd8
  obtain ⟨LB, eLB⟩ : ∃ z : List Nat, z = ((((((((((((((L0 ++ [q_1]) ++ [q_5]) ++ [q_9]) ++ [q_13]) ++ [q_17]) ++ [q_21]) ++ [q_25]) ++ [q_31]) ++ [q_35]) ++ [q_39]) ++ [q_43]) ++ [q_47]) ++ [q_51]) ++ [q_55]) := ⟨_, rfl⟩
  rw [← eLB] at hs hw
  obtain ⟨ad, eAD⟩ : ∃ z : Nat → Nat, z = ad_58 := ⟨_, rfl⟩
  rw [← eAD] at hs m70 m71 m8
  show W p l e ({ frames := 1, cells := 14, slots := 388021, locals := 21 } : Room) s m ([.ref a0] : List Value).toArray below meth c _ _ (14) (388021) (MQ below (Qv D (tq cy) L0 f0 s.heap.size (fun (L1 : List Nat) (f1 : Nat → va_E) => ∃ ad : Nat → Nat, MS cy L1 f1 a0 ad ∧ MV f1 a0 ad ∧ MI f1 a0 ad ∧ DT f1 ad 36525 ∧ fI f1 a0 9 = 0 ∧ fI f1 a0 15 = 0 ∧ fI f1 a0 5 = 0 ∧ aI f1 (ad 7) 0 = -1 ∧ aI f1 (ad 7) 1 = -1 ∧ ∀ i : Int, aI f1 (ad 8) i = 0)) ([.ref a0] : List Value).toArray s 14 388021 A) (F0 m 126 ls [])
  refine q_iconst hx hb dX10_init_126 ?_
  refine lv_istore_n (lv' := [(1, .int (iI 0)), (0, .ref a0)]) hx hb dX10_init_127 rfl hl (by decide) rfl (fun ls hl => ?_)
  refine q_sipush hx hb dX10_init_128 rfl ?_
  refine lv_istore_n (lv' := [(2, .int (iI 2000)), (1, .int (iI 0)), (0, .ref a0)]) hx hb dX10_init_131 rfl hl (by decide) rfl (fun ls hl => ?_)
  have J132 : ∀ (n132 : Nat) (y1_132 : Int) (ly1_132 : -2147483648 ≤ y1_132) (uy1_132 : y1_132 ≤ 2147483647) (y2_132 : Int) (ly2_132 : -2147483648 ≤ y2_132) (uy2_132 : y2_132 ≤ 2147483647) (L : List Nat) (fw132 : Nat → va_E) (hs : MS cy L fw132 a0 ad) (i5 : fI fw132 a0 5 = 0) (i9 : fI fw132 a0 9 = 0) (i15 : fI fw132 a0 15 = 0) (m70 : aI fw132 (ad 7) 0 = -1) (m71 : aI fw132 (ad 7) 1 = -1) (m8 : ∀ i : Int, aI fw132 (ad 8) i = 0) (l1 : 2000 ≤ y2_132) (l2 : y2_132 ≤ 2100) (d1 : y1_132 = mst y2_132 1) (dt : DT fw132 ad y1_132) (hn132 : ((2147483647 : Int) - y2_132).toNat < n132) (H : Heap) (locs : List Loc) (ls : Array Slot) (hw : Wd D A s.heap L fw132 H locs) (hl : lv_has ls 6 [(0, .ref a0), (1, .int (iI y1_132)), (2, .int (iI y2_132))]), W p l e ({ frames := 1, cells := 14, slots := 388021, locals := 21 } : Room) s m ([.ref a0] : List Value).toArray below meth c H locs (14) (388021) (MQ below (Qv D (tq cy) L0 f0 s.heap.size (fun (L1 : List Nat) (f1 : Nat → va_E) => ∃ ad : Nat → Nat, MS cy L1 f1 a0 ad ∧ MV f1 a0 ad ∧ MI f1 a0 ad ∧ DT f1 ad 36525 ∧ fI f1 a0 9 = 0 ∧ fI f1 a0 15 = 0 ∧ fI f1 a0 5 = 0 ∧ aI f1 (ad 7) 0 = -1 ∧ aI f1 (ad 7) 1 = -1 ∧ ∀ i : Int, aI f1 (ad 8) i = 0)) ([.ref a0] : List Value).toArray s 14 388021 A) (F0 m 132 ls []) := by
    intro n132
    induction n132 with
    | zero => intro y1_132 ly1_132 uy1_132 y2_132 ly2_132 uy2_132 L fw132 hs i5 i9 i15 m70 m71 m8 l1 l2 d1 dt hn132; exact absurd hn132 (Nat.not_lt_zero _)
    | succ n132 ih132 =>
      intro y1_132 ly1_132 uy1_132 y2_132 ly2_132 uy2_132 L fw132 hs i5 i9 i15 m70 m71 m8 l1 l2 d1 dt hn132 H locs ls hw hl
      refine lv_iload_n hx hb dX10_init_132 rfl (lv_at hl 2 rfl) ?_
      refine q_sipush hx hb dX10_init_133 rfl ?_
      refine q_icmp_ge (tgt := 215) hx hb dX10_init_136 (by decide) ⟨ly2_132, uy2_132⟩ ⟨by decide, by decide⟩ (fun c136 => ?_) (fun c136 => ?_)
      · exact q_ret_v hx hb hr hlocks hK hAe hw (Nat.le_of_ble_eq_true rfl) (Nat.le_of_ble_eq_true rfl) dX10_init_215 (by exact ⟨ad, hs, ⟨by omega, by omega, fun b h0 h1 => by omega⟩, fun i i0 i1 => Or.inl (by rcases (show i = 0 ∨ i = 1 by omega) with rfl | rfl <;> omega), (show y1_132 = 36525 by rw [d1, show y2_132 = 2100 by omega]; exact mst_end) ▸ dt, i9, i15, i5, m70, m71, m8⟩)
      · refine q_iconst hx hb dX10_init_139 ?_
        refine lv_istore_n (lv' := [(3, .int (iI 1)), (0, .ref a0), (1, .int (iI y1_132)), (2, .int (iI y2_132))]) hx hb dX10_init_140 rfl hl (by decide) rfl (fun ls hl => ?_)
        have J141 : ∀ (n141 : Nat) (y1_141 : Int) (ly1_141 : -2147483648 ≤ y1_141) (uy1_141 : y1_141 ≤ 2147483647) (y3_141 : Int) (ly3_141 : -2147483648 ≤ y3_141) (uy3_141 : y3_141 ≤ 2147483647) (L : List Nat) (fw141 : Nat → va_E) (hs : MS cy L fw141 a0 ad) (i5 : fI fw141 a0 5 = 0) (i9 : fI fw141 a0 9 = 0) (i15 : fI fw141 a0 15 = 0) (m70 : aI fw141 (ad 7) 0 = -1) (m71 : aI fw141 (ad 7) 1 = -1) (m8 : ∀ i : Int, aI fw141 (ad 8) i = 0) (l3 : 1 ≤ y3_141) (l4 : y3_141 ≤ 13) (d3 : (y3_141 ≤ 12 → y1_141 = mst y2_132 y3_141) ∧ (y3_141 = 13 → y1_141 = mst (y2_132 + 1) 1)) (dt : DT fw141 ad y1_141) (hn141 : ((2147483647 : Int) - y3_141).toNat < n141) (H : Heap) (locs : List Loc) (ls : Array Slot) (hw : Wd D A s.heap L fw141 H locs) (hl : lv_has ls 6 [(0, .ref a0), (1, .int (iI y1_141)), (2, .int (iI y2_132)), (3, .int (iI y3_141))]), W p l e ({ frames := 1, cells := 14, slots := 388021, locals := 21 } : Room) s m ([.ref a0] : List Value).toArray below meth c H locs (14) (388021) (MQ below (Qv D (tq cy) L0 f0 s.heap.size (fun (L1 : List Nat) (f1 : Nat → va_E) => ∃ ad : Nat → Nat, MS cy L1 f1 a0 ad ∧ MV f1 a0 ad ∧ MI f1 a0 ad ∧ DT f1 ad 36525 ∧ fI f1 a0 9 = 0 ∧ fI f1 a0 15 = 0 ∧ fI f1 a0 5 = 0 ∧ aI f1 (ad 7) 0 = -1 ∧ aI f1 (ad 7) 1 = -1 ∧ ∀ i : Int, aI f1 (ad 8) i = 0)) ([.ref a0] : List Value).toArray s 14 388021 A) (F0 m 141 ls []) := by
          intro n141
          induction n141 with
          | zero => intro y1_141 ly1_141 uy1_141 y3_141 ly3_141 uy3_141 L fw141 hs i5 i9 i15 m70 m71 m8 l3 l4 d3 dt hn141; exact absurd hn141 (Nat.not_lt_zero _)
          | succ n141 ih141 =>
            intro y1_141 ly1_141 uy1_141 y3_141 ly3_141 uy3_141 L fw141 hs i5 i9 i15 m70 m71 m8 l3 l4 d3 dt hn141 H locs ls hw hl
            refine lv_iload_n hx hb dX10_init_141 rfl (lv_at hl 3 rfl) ?_
            refine q_bipush hx hb dX10_init_142 rfl ?_
            refine q_icmp_ge (tgt := 209) hx hb dX10_init_144 (by decide) ⟨ly3_141, uy3_141⟩ ⟨by decide, by decide⟩ (fun c144 => ?_) (fun c144 => ?_)
            · obtain ⟨x_59, lx_59, ux_59, hx_59, ex_59⟩ := q_inc y2_132 (1)
              try (replace ex_59 : x_59 = y2_132 + (1) := by omega)
              refine lv_iinc (v := iI x_59) (lv' := [(2, .int (iI x_59)), (0, .ref a0), (1, .int (iI y1_141)), (3, .int (iI y3_141))]) hx hb dX10_init_209 hl (k := 2) rfl hx_59 (by decide) rfl (fun ls hl => ?_)
              refine lv_goto (tgt := 132) hx hb dX10_init_212 (by decide) ?_
              exact ih132 y1_141 ly1_141 uy1_141 x_59 lx_59 ux_59 L fw141 hs i5 i9 i15 m70 m71 m8 (by omega) (by omega) (by first | exact mst_0.symm | exact (d3.2 (by omega)).trans (mst_cg (by omega))) (by first | exact dt | exact DT_0 _ _) (by omega) _ _ _ hw (lv_sub hl [1, 2, 0] rfl)
            · refine lv_iload_n hx hb dX10_init_147 rfl (lv_at hl 2 rfl) ?_
              refine lv_iload_n hx hb dX10_init_148 rfl (lv_at hl 3 rfl) ?_
              refine q_call_i hA hK hw (va_runS (As := [.int (iI y2_132), .int (iI y3_141)]) (rest := []) ⟨hx, hb, hml, hown, hts⟩ (c_X10_daysIn_2 zo l D cy L fw141 y2_132 ly2_132 uy2_132 y3_141 ly3_141 uy3_141 _) (va_cwS 2 hts (gT (inS (mr4 _ (List.mem_of_getElem? (i := 3) rfl)) (mr4 _ (List.mem_of_getElem? (i := 4) rfl)) (mr1 _ (List.mem_of_getElem? (i := 5) rfl)) (mr4 _ (List.mem_of_getElem? (i := 5) rfl)))) rfl rfl rfl (by decide +kernel) ⟨Nat.le_of_ble_eq_true rfl, Nat.le_of_ble_eq_true rfl⟩) (Wd.preS zo hA hZ hw hK) rfl rfl hl.1 rfl (lv_room (Nat.le_of_ble_eq_true rfl)) dX10_init_149 ⟨Nat.le_of_ble_eq_true rfl, Nat.le_of_ble_eq_true rfl⟩) (fun x_60 L1 f1 H locs lx_60 ux_60 ex_60 hw => ?_)
              obtain ⟨rfl, rfl, ex_60⟩ := ex_60
              have e4 : x_60 = dI y2_132 y3_141 := ex_60.2.2 (by omega)
              refine lv_istore (lv' := [(4, .int (iI x_60)), (0, .ref a0), (1, .int (iI y1_141)), (2, .int (iI y2_132)), (3, .int (iI y3_141))]) hx hb dX10_init_152 hl (by decide) rfl (fun ls hl => ?_)
              refine q_iconst hx hb dX10_init_154 ?_
              refine lv_istore (lv' := [(5, .int (iI 1)), (4, .int (iI x_60)), (0, .ref a0), (1, .int (iI y1_141)), (2, .int (iI y2_132)), (3, .int (iI y3_141))]) hx hb dX10_init_155 hl (by decide) rfl (fun ls hl => ?_)
              have J157 : ∀ (n157 : Nat) (y1_157 : Int) (ly1_157 : -2147483648 ≤ y1_157) (uy1_157 : y1_157 ≤ 2147483647) (y5_157 : Int) (ly5_157 : -2147483648 ≤ y5_157) (uy5_157 : y5_157 ≤ 2147483647) (L : List Nat) (fw157 : Nat → va_E) (hs : MS cy L fw157 a0 ad) (i5 : fI fw157 a0 5 = 0) (i9 : fI fw157 a0 9 = 0) (i15 : fI fw157 a0 15 = 0) (m70 : aI fw157 (ad 7) 0 = -1) (m71 : aI fw157 (ad 7) 1 = -1) (m8 : ∀ i : Int, aI fw157 (ad 8) i = 0) (l5 : 1 ≤ y5_157) (l6 : y5_157 ≤ x_60 + 1) (d5 : y1_157 = mst y2_132 y3_141 + y5_157 - 1) (dt : DT fw157 ad y1_157) (hn157 : ((2147483647 : Int) - y5_157).toNat < n157) (H : Heap) (locs : List Loc) (ls : Array Slot) (hw : Wd D A s.heap L fw157 H locs) (hl : lv_has ls 6 [(0, .ref a0), (1, .int (iI y1_157)), (2, .int (iI y2_132)), (3, .int (iI y3_141)), (4, .int (iI x_60)), (5, .int (iI y5_157))]), W p l e ({ frames := 1, cells := 14, slots := 388021, locals := 21 } : Room) s m ([.ref a0] : List Value).toArray below meth c H locs (14 + 0) (388021 + 0) (MQ below (Qv D (tq cy) L0 f0 s.heap.size (fun (L1 : List Nat) (f1 : Nat → va_E) => ∃ ad : Nat → Nat, MS cy L1 f1 a0 ad ∧ MV f1 a0 ad ∧ MI f1 a0 ad ∧ DT f1 ad 36525 ∧ fI f1 a0 9 = 0 ∧ fI f1 a0 15 = 0 ∧ fI f1 a0 5 = 0 ∧ aI f1 (ad 7) 0 = -1 ∧ aI f1 (ad 7) 1 = -1 ∧ ∀ i : Int, aI f1 (ad 8) i = 0)) ([.ref a0] : List Value).toArray s 14 388021 A) (F0 m 157 ls []) := by
                intro n157
                induction n157 with
                | zero => intro y1_157 ly1_157 uy1_157 y5_157 ly5_157 uy5_157 L fw157 hs i5 i9 i15 m70 m71 m8 l5 l6 d5 dt hn157; exact absurd hn157 (Nat.not_lt_zero _)
                | succ n157 ih157 =>
                  intro y1_157 ly1_157 uy1_157 y5_157 ly5_157 uy5_157 L fw157 hs i5 i9 i15 m70 m71 m8 l5 l6 d5 dt hn157 H locs ls hw hl
                  refine lv_iload hx hb dX10_init_157 (lv_at hl 5 rfl) ?_
                  refine lv_iload hx hb dX10_init_159 (lv_at hl 4 rfl) ?_
                  refine q_icmp_gt (tgt := 203) hx hb dX10_init_161 (by decide) ⟨ly5_157, uy5_157⟩ ⟨lx_60, ux_60⟩ (fun c161 => ?_) (fun c161 => ?_)
                  · obtain ⟨x_61, lx_61, ux_61, hx_61, ex_61⟩ := q_inc y3_141 (1)
                    try (replace ex_61 : x_61 = y3_141 + (1) := by omega)
                    refine lv_iinc (v := iI x_61) (lv' := [(3, .int (iI x_61)), (0, .ref a0), (1, .int (iI y1_157)), (2, .int (iI y2_132)), (4, .int (iI x_60)), (5, .int (iI y5_157))]) hx hb dX10_init_203 hl (k := 3) rfl hx_61 (by decide) rfl (fun ls hl => ?_)
                    refine lv_goto (tgt := 141) hx hb dX10_init_206 (by decide) ?_
                    exact ih141 y1_157 ly1_157 uy1_157 x_61 lx_61 ux_61 L fw157 hs i5 i9 i15 m70 m71 m8 (by omega) (by omega) (by first | exact ⟨fun _ => d1, fun q => absurd q (by decide)⟩ | exact ⟨fun q => Eq.trans (by omega) (mst_nx (m := y3_141) (by omega) (by omega) (by omega)).symm, fun q => Eq.trans (by omega) (mst_yr (m := y3_141) (by omega)).symm⟩) (by exact dt) (by omega) _ _ _ hw (lv_sub hl [1, 2, 3, 0] rfl)
                  · have rgd := mst_rg (y := y2_132) (m := y3_141) (k := y5_157) (by omega) (by omega) (by omega) (by omega) (by omega) (by omega)
                    refine lv_aload_n hx hb dX10_init_164 rfl (lv_at hl 0 rfl) ?_
                    refine q_getr (ci := 8) (C := RX10) (T := TX10) (N := 26) hx hb hts (fun w h => List.mem_cons_of_mem _ (mfX100 w h)) hown hK hw hs.1 hs.2.1 rfl 0 (by decide) (hts _ (List.mem_cons_of_mem _ (mr3 _ (List.mem_of_getElem? (i := 10) rfl)))) (fun _ h => h) rfl (hs.2.2.1 0 rfl).1 dX10_init_165 ?_
                    refine lv_iload_n hx hb dX10_init_168 rfl (lv_at hl 1 rfl) ?_
                    refine lv_iload_n hx hb dX10_init_169 rfl (lv_at hl 2 rfl) ?_
                    refine q_iast hx hb hK hw (hs.2.2.1 0 rfl).2.1 1 (hs.2.2.1 0 rfl).2.2 rfl ⟨ly1_157, uy1_157⟩ (by omega) (by show _ < ((36525 : Nat) : Int); omega) dX10_init_170 (fun H locs hw => ?_)
                    obtain ⟨f_62, ef_62⟩ : ∃ g : Nat → va_E, g = aU fw157 (ad 0) y1_157 (iI y2_132) := ⟨_, rfl⟩
                    have hs_ := hs
                    have hs : MS cy L f_62 a0 ad := by rw [ef_62]; exact MS_aU hs rfl
                    rw [← ef_62] at hw
                    have i5 : fI f_62 a0 5 = 0 := Eq.trans (by rw [ef_62]; exact hs_.fI_aU rfl _ _) i5
                    have i9 : fI f_62 a0 9 = 0 := Eq.trans (by rw [ef_62]; exact hs_.fI_aU rfl _ _) i9
                    have i15 : fI f_62 a0 15 = 0 := Eq.trans (by rw [ef_62]; exact hs_.fI_aU rfl _ _) i15
                    have m70 : aI f_62 (ad 7) 0 = -1 := Eq.trans (by rw [ef_62]; exact hs_.aI_ne rfl rfl (by decide) _) m70
                    have m71 : aI f_62 (ad 7) 1 = -1 := Eq.trans (by rw [ef_62]; exact hs_.aI_ne rfl rfl (by decide) _) m71
                    have m8 : ∀ i : Int, aI f_62 (ad 8) i = 0 := fun i => Eq.trans (by rw [ef_62]; exact hs_.aI_ne rfl rfl (by decide) _) (m8 i)
                    have o0 : ∀ x : Int, 0 ≤ x → x ≠ y1_157 → aI f_62 (ad 0) x = aI fw157 (ad 0) x := fun x q0 q1 => (by rw [ef_62]; exact hs_.aI_nj rfl (by omega) q0 q1)
                    have w0 : aI f_62 (ad 0) y1_157 = y2_132 := by rw [ef_62]; exact hs_.aI_self rfl ⟨ly2_132, uy2_132⟩
                    have o1 : ∀ x : Int, 0 ≤ x → x ≠ y1_157 → aI f_62 (ad 1) x = aI fw157 (ad 1) x := fun x q0 q1 => (by rw [ef_62]; exact hs_.aI_ne rfl rfl (by decide) _)
                    have o2 : ∀ x : Int, 0 ≤ x → x ≠ y1_157 → aI f_62 (ad 2) x = aI fw157 (ad 2) x := fun x q0 q1 => (by rw [ef_62]; exact hs_.aI_ne rfl rfl (by decide) _)
                    have o3 : ∀ x : Int, 0 ≤ x → x ≠ y1_157 → aI f_62 (ad 3) x = aI fw157 (ad 3) x := fun x q0 q1 => (by rw [ef_62]; exact hs_.aI_ne rfl rfl (by decide) _)
                    refine lv_aload_n hx hb dX10_init_171 rfl (lv_at hl 0 rfl) ?_
                    refine q_getr (ci := 8) (C := RX10) (T := TX10) (N := 26) hx hb hts (fun w h => List.mem_cons_of_mem _ (mfX100 w h)) hown hK hw hs.1 hs.2.1 rfl 1 (by decide) (hts _ (List.mem_cons_of_mem _ (mr3 _ (List.mem_of_getElem? (i := 11) rfl)))) (fun _ h => h) rfl (hs.2.2.1 1 rfl).1 dX10_init_172 ?_
                    refine lv_iload_n hx hb dX10_init_175 rfl (lv_at hl 1 rfl) ?_
                    refine lv_iload_n hx hb dX10_init_176 rfl (lv_at hl 3 rfl) ?_
                    refine q_iast hx hb hK hw (hs.2.2.1 1 rfl).2.1 1 (hs.2.2.1 1 rfl).2.2 rfl ⟨ly1_157, uy1_157⟩ (by omega) (by show _ < ((36525 : Nat) : Int); omega) dX10_init_177 (fun H locs hw => ?_)
                    obtain ⟨f_63, ef_63⟩ : ∃ g : Nat → va_E, g = aU f_62 (ad 1) y1_157 (iI y3_141) := ⟨_, rfl⟩
                    have hs_ := hs
                    have hs : MS cy L f_63 a0 ad := by rw [ef_63]; exact MS_aU hs rfl
                    rw [← ef_63] at hw
                    have i5 : fI f_63 a0 5 = 0 := Eq.trans (by rw [ef_63]; exact hs_.fI_aU rfl _ _) i5
                    have i9 : fI f_63 a0 9 = 0 := Eq.trans (by rw [ef_63]; exact hs_.fI_aU rfl _ _) i9
                    have i15 : fI f_63 a0 15 = 0 := Eq.trans (by rw [ef_63]; exact hs_.fI_aU rfl _ _) i15
                    have m70 : aI f_63 (ad 7) 0 = -1 := Eq.trans (by rw [ef_63]; exact hs_.aI_ne rfl rfl (by decide) _) m70
                    have m71 : aI f_63 (ad 7) 1 = -1 := Eq.trans (by rw [ef_63]; exact hs_.aI_ne rfl rfl (by decide) _) m71
                    have m8 : ∀ i : Int, aI f_63 (ad 8) i = 0 := fun i => Eq.trans (by rw [ef_63]; exact hs_.aI_ne rfl rfl (by decide) _) (m8 i)
                    have o0 : ∀ x : Int, 0 ≤ x → x ≠ y1_157 → aI f_63 (ad 0) x = aI fw157 (ad 0) x := fun x q0 q1 => Eq.trans (by rw [ef_63]; exact hs_.aI_ne rfl rfl (by decide) _) (o0 x q0 q1)
                    have w0 := Eq.trans (show aI f_63 (ad 0) y1_157 = aI f_62 (ad 0) y1_157 by rw [ef_63]; exact hs_.aI_ne rfl rfl (by decide) _) w0
                    have o1 : ∀ x : Int, 0 ≤ x → x ≠ y1_157 → aI f_63 (ad 1) x = aI fw157 (ad 1) x := fun x q0 q1 => Eq.trans (by rw [ef_63]; exact hs_.aI_nj rfl (by omega) q0 q1) (o1 x q0 q1)
                    have w1 : aI f_63 (ad 1) y1_157 = y3_141 := by rw [ef_63]; exact hs_.aI_self rfl ⟨ly3_141, uy3_141⟩
                    have o2 : ∀ x : Int, 0 ≤ x → x ≠ y1_157 → aI f_63 (ad 2) x = aI fw157 (ad 2) x := fun x q0 q1 => Eq.trans (by rw [ef_63]; exact hs_.aI_ne rfl rfl (by decide) _) (o2 x q0 q1)
                    have o3 : ∀ x : Int, 0 ≤ x → x ≠ y1_157 → aI f_63 (ad 3) x = aI fw157 (ad 3) x := fun x q0 q1 => Eq.trans (by rw [ef_63]; exact hs_.aI_ne rfl rfl (by decide) _) (o3 x q0 q1)
                    refine lv_aload_n hx hb dX10_init_178 rfl (lv_at hl 0 rfl) ?_
                    refine q_getr (ci := 8) (C := RX10) (T := TX10) (N := 26) hx hb hts (fun w h => List.mem_cons_of_mem _ (mfX100 w h)) hown hK hw hs.1 hs.2.1 rfl 2 (by decide) (hts _ (List.mem_cons_of_mem _ (mr3 _ (List.mem_of_getElem? (i := 12) rfl)))) (fun _ h => h) rfl (hs.2.2.1 2 rfl).1 dX10_init_179 ?_
                    refine lv_iload_n hx hb dX10_init_182 rfl (lv_at hl 1 rfl) ?_
                    refine lv_iload hx hb dX10_init_183 (lv_at hl 5 rfl) ?_
                    refine q_iast hx hb hK hw (hs.2.2.1 2 rfl).2.1 1 (hs.2.2.1 2 rfl).2.2 rfl ⟨ly1_157, uy1_157⟩ (by omega) (by show _ < ((36525 : Nat) : Int); omega) dX10_init_185 (fun H locs hw => ?_)
                    obtain ⟨f_64, ef_64⟩ : ∃ g : Nat → va_E, g = aU f_63 (ad 2) y1_157 (iI y5_157) := ⟨_, rfl⟩
                    have hs_ := hs
                    have hs : MS cy L f_64 a0 ad := by rw [ef_64]; exact MS_aU hs rfl
                    rw [← ef_64] at hw
                    have i5 : fI f_64 a0 5 = 0 := Eq.trans (by rw [ef_64]; exact hs_.fI_aU rfl _ _) i5
                    have i9 : fI f_64 a0 9 = 0 := Eq.trans (by rw [ef_64]; exact hs_.fI_aU rfl _ _) i9
                    have i15 : fI f_64 a0 15 = 0 := Eq.trans (by rw [ef_64]; exact hs_.fI_aU rfl _ _) i15
                    have m70 : aI f_64 (ad 7) 0 = -1 := Eq.trans (by rw [ef_64]; exact hs_.aI_ne rfl rfl (by decide) _) m70
                    have m71 : aI f_64 (ad 7) 1 = -1 := Eq.trans (by rw [ef_64]; exact hs_.aI_ne rfl rfl (by decide) _) m71
                    have m8 : ∀ i : Int, aI f_64 (ad 8) i = 0 := fun i => Eq.trans (by rw [ef_64]; exact hs_.aI_ne rfl rfl (by decide) _) (m8 i)
                    have o0 : ∀ x : Int, 0 ≤ x → x ≠ y1_157 → aI f_64 (ad 0) x = aI fw157 (ad 0) x := fun x q0 q1 => Eq.trans (by rw [ef_64]; exact hs_.aI_ne rfl rfl (by decide) _) (o0 x q0 q1)
                    have w0 := Eq.trans (show aI f_64 (ad 0) y1_157 = aI f_63 (ad 0) y1_157 by rw [ef_64]; exact hs_.aI_ne rfl rfl (by decide) _) w0
                    have o1 : ∀ x : Int, 0 ≤ x → x ≠ y1_157 → aI f_64 (ad 1) x = aI fw157 (ad 1) x := fun x q0 q1 => Eq.trans (by rw [ef_64]; exact hs_.aI_ne rfl rfl (by decide) _) (o1 x q0 q1)
                    have w1 := Eq.trans (show aI f_64 (ad 1) y1_157 = aI f_63 (ad 1) y1_157 by rw [ef_64]; exact hs_.aI_ne rfl rfl (by decide) _) w1
                    have o2 : ∀ x : Int, 0 ≤ x → x ≠ y1_157 → aI f_64 (ad 2) x = aI fw157 (ad 2) x := fun x q0 q1 => Eq.trans (by rw [ef_64]; exact hs_.aI_nj rfl (by omega) q0 q1) (o2 x q0 q1)
                    have w2 : aI f_64 (ad 2) y1_157 = y5_157 := by rw [ef_64]; exact hs_.aI_self rfl ⟨ly5_157, uy5_157⟩
                    have o3 : ∀ x : Int, 0 ≤ x → x ≠ y1_157 → aI f_64 (ad 3) x = aI fw157 (ad 3) x := fun x q0 q1 => Eq.trans (by rw [ef_64]; exact hs_.aI_ne rfl rfl (by decide) _) (o3 x q0 q1)
                    refine lv_aload_n hx hb dX10_init_186 rfl (lv_at hl 0 rfl) ?_
                    refine q_getr (ci := 8) (C := RX10) (T := TX10) (N := 26) hx hb hts (fun w h => List.mem_cons_of_mem _ (mfX100 w h)) hown hK hw hs.1 hs.2.1 rfl 3 (by decide) (hts _ (List.mem_cons_of_mem _ (mr3 _ (List.mem_of_getElem? (i := 13) rfl)))) (fun _ h => h) rfl (hs.2.2.1 3 rfl).1 dX10_init_187 ?_
                    refine lv_iload_n hx hb dX10_init_190 rfl (lv_at hl 1 rfl) ?_
                    refine lv_iload hx hb dX10_init_191 (lv_at hl 4 rfl) ?_
                    refine q_iast hx hb hK hw (hs.2.2.1 3 rfl).2.1 1 (hs.2.2.1 3 rfl).2.2 rfl ⟨ly1_157, uy1_157⟩ (by omega) (by show _ < ((36525 : Nat) : Int); omega) dX10_init_193 (fun H locs hw => ?_)
                    obtain ⟨f_65, ef_65⟩ : ∃ g : Nat → va_E, g = aU f_64 (ad 3) y1_157 (iI x_60) := ⟨_, rfl⟩
                    have hs_ := hs
                    have hs : MS cy L f_65 a0 ad := by rw [ef_65]; exact MS_aU hs rfl
                    rw [← ef_65] at hw
                    have i5 : fI f_65 a0 5 = 0 := Eq.trans (by rw [ef_65]; exact hs_.fI_aU rfl _ _) i5
                    have i9 : fI f_65 a0 9 = 0 := Eq.trans (by rw [ef_65]; exact hs_.fI_aU rfl _ _) i9
                    have i15 : fI f_65 a0 15 = 0 := Eq.trans (by rw [ef_65]; exact hs_.fI_aU rfl _ _) i15
                    have m70 : aI f_65 (ad 7) 0 = -1 := Eq.trans (by rw [ef_65]; exact hs_.aI_ne rfl rfl (by decide) _) m70
                    have m71 : aI f_65 (ad 7) 1 = -1 := Eq.trans (by rw [ef_65]; exact hs_.aI_ne rfl rfl (by decide) _) m71
                    have m8 : ∀ i : Int, aI f_65 (ad 8) i = 0 := fun i => Eq.trans (by rw [ef_65]; exact hs_.aI_ne rfl rfl (by decide) _) (m8 i)
                    have o0 : ∀ x : Int, 0 ≤ x → x ≠ y1_157 → aI f_65 (ad 0) x = aI fw157 (ad 0) x := fun x q0 q1 => Eq.trans (by rw [ef_65]; exact hs_.aI_ne rfl rfl (by decide) _) (o0 x q0 q1)
                    have w0 := Eq.trans (show aI f_65 (ad 0) y1_157 = aI f_64 (ad 0) y1_157 by rw [ef_65]; exact hs_.aI_ne rfl rfl (by decide) _) w0
                    have o1 : ∀ x : Int, 0 ≤ x → x ≠ y1_157 → aI f_65 (ad 1) x = aI fw157 (ad 1) x := fun x q0 q1 => Eq.trans (by rw [ef_65]; exact hs_.aI_ne rfl rfl (by decide) _) (o1 x q0 q1)
                    have w1 := Eq.trans (show aI f_65 (ad 1) y1_157 = aI f_64 (ad 1) y1_157 by rw [ef_65]; exact hs_.aI_ne rfl rfl (by decide) _) w1
                    have o2 : ∀ x : Int, 0 ≤ x → x ≠ y1_157 → aI f_65 (ad 2) x = aI fw157 (ad 2) x := fun x q0 q1 => Eq.trans (by rw [ef_65]; exact hs_.aI_ne rfl rfl (by decide) _) (o2 x q0 q1)
                    have w2 := Eq.trans (show aI f_65 (ad 2) y1_157 = aI f_64 (ad 2) y1_157 by rw [ef_65]; exact hs_.aI_ne rfl rfl (by decide) _) w2
                    have o3 : ∀ x : Int, 0 ≤ x → x ≠ y1_157 → aI f_65 (ad 3) x = aI fw157 (ad 3) x := fun x q0 q1 => Eq.trans (by rw [ef_65]; exact hs_.aI_nj rfl (by omega) q0 q1) (o3 x q0 q1)
                    have w3 : aI f_65 (ad 3) y1_157 = x_60 := by rw [ef_65]; exact hs_.aI_self rfl ⟨lx_60, ux_60⟩
                    have dt' : DT f_65 ad (y1_157 + 1) := dt.step (y := y2_132) (m := y3_141) (k := y5_157) (by omega) (by omega) (by omega) (by omega) (by omega) (by omega) w0 w1 w2 (w3.trans e4) o0 o1 o2 o3
                    obtain ⟨x_66, lx_66, ux_66, hx_66, ex_66⟩ := q_inc y1_157 (1)
                    try (replace ex_66 : x_66 = y1_157 + (1) := by omega)
                    refine lv_iinc (v := iI x_66) (lv' := [(1, .int (iI x_66)), (0, .ref a0), (2, .int (iI y2_132)), (3, .int (iI y3_141)), (4, .int (iI x_60)), (5, .int (iI y5_157))]) hx hb dX10_init_194 hl (k := 1) rfl hx_66 (by decide) rfl (fun ls hl => ?_)
                    obtain ⟨x_67, lx_67, ux_67, hx_67, ex_67⟩ := q_inc y5_157 (1)
                    try (replace ex_67 : x_67 = y5_157 + (1) := by omega)
                    refine lv_iinc (v := iI x_67) (lv' := [(5, .int (iI x_67)), (1, .int (iI x_66)), (0, .ref a0), (2, .int (iI y2_132)), (3, .int (iI y3_141)), (4, .int (iI x_60))]) hx hb dX10_init_197 hl (k := 5) rfl hx_67 (by decide) rfl (fun ls hl => ?_)
                    refine lv_goto (tgt := 157) hx hb dX10_init_200 (by decide) ?_
                    exact ih157 x_66 lx_66 ux_66 x_67 lx_67 ux_67 L f_65 hs i5 i9 i15 m70 m71 m8 (by omega) (by omega) (by first | (have e9 := d3.1 (by omega); omega) | omega) (by first | exact dt | exact DT_to dt' (by omega)) (by omega) _ _ _ hw (lv_sub hl [2, 1, 3, 4, 5, 0] rfl)
              exact J157 ((((2147483647 : Int) - 1).toNat) + 1) y1_141 ly1_141 uy1_141 1 (by decide) (by decide) L fw141 hs i5 i9 i15 m70 m71 m8 (by omega) (by omega) (by first | (have e9 := d3.1 (by omega); omega) | omega) (by first | exact dt | exact DT_to dt' (by omega)) (by omega) _ _ _ hw (lv_sub hl [2, 3, 4, 5, 1, 0] rfl)
        exact J141 ((((2147483647 : Int) - 1).toNat) + 1) y1_132 ly1_132 uy1_132 1 (by decide) (by decide) L fw132 hs i5 i9 i15 m70 m71 m8 (by omega) (by omega) (by first | exact ⟨fun _ => d1, fun q => absurd q (by decide)⟩ | exact ⟨fun q => Eq.trans (by omega) (mst_nx (m := y3_141) (by omega) (by omega) (by omega)).symm, fun q => Eq.trans (by omega) (mst_yr (m := y3_141) (by omega)).symm⟩) (by exact dt) (by omega) _ _ _ hw (lv_sub hl [1, 2, 3, 0] rfl)
  exact J132 ((((2147483647 : Int) - 2000).toNat) + 1) 0 (by decide) (by decide) 2000 (by decide) (by decide) LB f_57 hs i5 i9 i15 m70 m71 m8 (by omega) (by omega) (by first | exact mst_0.symm | exact (d3.2 (by omega)).trans (mst_cg (by omega))) (by first | exact dt | exact DT_0 _ _) (by omega) _ _ _ hw (lv_sub hl [2, 1, 0] rfl)