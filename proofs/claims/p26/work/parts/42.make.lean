set_option maxHeartbeats 4000000 in
set_option maxRecDepth 100000 in
theorem c_X0_init {Z : Zt} (zo : Zok Z) (l : Launch) (D : va_G) (cy : Cy) (L0 : List Nat) (f0 : Nat → va_E) (a0 : Nat) (a1 : Nat) (m_a0 : a0 ∈ L0) (o_a0 : Ob f0 a0 0) (m_a1 : a1 ∈ L0) (o_a1 : Rl f0 a1) (M : List Nat) (hM : ∀ x ∈ M, x ∈ L0) (hg : GI cy M f0) (hn0 : a0 ∉ M) (ma1 : a1 ∈ M) (h10 : 0 ≤ fI f0 a0 10 ∧ fI f0 a0 10 ≤ 16) : Cv Z l yX0_init (Cond.code yX0_init cX0_init 2 none :: TB) ({ frames := 1, cells := 2, slots := 32, locals := 20 } : Room) 2 32 D (tq cy) [.ref a0, .ref a1] L0 f0 (fun (L1 : List Nat) (f1 : Nat → va_E) => PA cy M L0 f0 a0 0 L1 f1) := by
  refine Cv.enter (cc := cX0_init) (n := 2) rfl (plainFor_of_name (by decide)) (Nat.le_of_ble_eq_true rfl) ?_
  intro p e s m below meth c ls A hx hb hr hts hown hlocks hnm hml hK hA hAe hw hZ hl
  have hown : s.vm.findClass RX0 = some m.cls := hown
  have hl : lv_has ls 2 [(0, .ref a0), (1, .ref a1)] := hl
  have hN : ZN s := (zo.2.2.2.2 _ _ _ hZ).2
  have ha0 := m_a0
  have hML := hM
  have hM0 : ∀ x ∈ M, x ∈ M := fun _ h => h
  have hMc : ∀ x ∈ M, x ∈ M ∨ x ∉ L0 := fun _ h => Or.inl h
  have hs : ∀ x ∈ L0, x ∈ L0 := fun _ h => h
  have hc : ∀ x ∈ L0, x ∈ L0 ∨ x ∈ M ∨ x ∈ ([] : List Nat) := fun _ h => Or.inl h
  have hO : ∀ x ∈ L0, x ≠ a0 → f0 x = f0 x := fun _ _ _ => rfl
  have mg_a1 := ma1
  have i_10 : fI f0 a0 10 = fI f0 a0 10 := rfl
  refine lv_aload_n hx hb dX0_init_0 rfl (lv_at hl 0 rfl) ?_
  refine W.objInit hx hb hown (hts _ (List.mem_cons_of_mem _ (mr3 _ (List.mem_of_getElem? (i := 0) rfl)))) (hts _ (List.mem_cons_of_mem _ (mr1 _ (List.mem_of_getElem? (i := 12) rfl)))) (hts _ (List.mem_cons_of_mem _ (mr1 _ (List.mem_of_getElem? (i := 13) rfl)))) rfl (by rw [hml]; exact hl.1) rfl dX0_init_1 (Nat.le_of_ble_eq_true rfl) (Nat.le_of_ble_eq_true rfl) ?_
  refine W.eq (g2 := F0 m 4 ls []) rfl ?_
  refine lv_aload_n hx hb dX0_init_4 rfl (lv_at hl 0 rfl) ?_
  refine q_bipush hx hb dX0_init_5 rfl ?_
  refine q_newI (n := 16) (cA := cy.2.1) hx hb (hts _ (List.mem_cons_of_mem _ (mr3 _ (List.mem_of_getElem? (i := 1) rfl)))) rfl rfl 1 rfl hK hw hA (by decide) (by decide) (by show 0 + 1 ≤ 2; omega) (by show 0 + 16 ≤ 32; omega) dX0_init_7 (fun q_1 H n_q_1 hw => ?_)
  obtain ⟨f_2, ef_2⟩ : ∃ g : Nat → va_E, g = va_up f0 q_1 (.inl (cy.2.1, 16, .inl (fun _ => 0))) := ⟨_, rfl⟩
  rw [← ef_2] at hw
  have hq : ∀ x ∈ L0, f_2 x = f0 x := fun x h => by rw [ef_2]; exact va_up_ne _ _ (fun z => n_q_1 (z ▸ h))
  have o_a0 := Ob_of (hq _ m_a0) o_a0
  have o_a1 := Rl_of (hq _ m_a1) o_a1
  have i_10 := (fI_of (k := 10) (hq _ m_a0)).trans i_10
  have hO : ∀ x ∈ L0, x ≠ a0 → f_2 x = f0 x := fun x m h => (hq x (hs x m)).trans (hO x m h)
  have hg := hg.off (fun x h => hq x (hML x h))
  have ne_a0 : a0 ≠ q_1 := fun z => n_q_1 (z ▸ m_a0)
  have m_a0 : a0 ∈ L0 ++ [q_1] := List.mem_append_left _ m_a0
  have ne_a1 : a1 ≠ q_1 := fun z => n_q_1 (z ▸ m_a1)
  have m_a1 : a1 ∈ L0 ++ [q_1] := List.mem_append_left _ m_a1
  have m_q_1 : q_1 ∈ L0 ++ [q_1] := List.mem_append_right _ (List.mem_singleton.mpr rfl)
  have nq_q_1 : q_1 ∉ L0 := fun z => n_q_1 (hs _ z)
  have nm_q_1 : q_1 ∉ M := fun z => n_q_1 (hML _ z)
  have hs : ∀ x ∈ L0, x ∈ L0 ++ [q_1] := fun x h => List.mem_append_left _ (hs x h)
  have o_q_1 : ArI f_2 q_1 cy.2.1 16 := by rw [ef_2]; exact ⟨_, va_up_self _ _ _⟩
  have hg := hg.addI o_q_1
  have mg_a1 : a1 ∈ M ++ [q_1] := List.mem_append_left _ mg_a1
  have mg_q_1 : q_1 ∈ M ++ [q_1] := List.mem_append_right _ (List.mem_singleton.mpr rfl)
  have hML : ∀ x ∈ M ++ [q_1], x ∈ L0 ++ [q_1] := fun x h => (List.mem_append.mp h).elim (fun h => List.mem_append_left _ (hML x h)) (fun h => by rw [List.mem_singleton.mp h]; exact m_q_1)
  have hM0 : ∀ x ∈ M, x ∈ M ++ [q_1] := fun x h => List.mem_append_left _ (hM0 x h)
  have hMc : ∀ x ∈ M ++ [q_1], x ∈ M ∨ x ∉ L0 := fun x h => (List.mem_append.mp h).elim (fun h => hMc x h) (fun h => by rw [List.mem_singleton.mp h]; exact Or.inr nq_q_1)
  have hc : ∀ x ∈ L0 ++ [q_1], x ∈ L0 ∨ x ∈ (M ++ [q_1]) ∨ x ∈ ([] : List Nat) := fun x h => (List.mem_append.mp h).elim (fun h => (hc x h).elim Or.inl (fun h => h.elim (fun h => Or.inr (Or.inl (List.mem_append_left _ h))) (fun h => Or.inr (Or.inr h)))) (fun h => Or.inr (Or.inl (List.mem_append_right _ h)))
  refine q_putFr (ci := 0) (C := RX0) (T := TX0) (N := 15) hx hb hts (fun w h => List.mem_cons_of_mem _ (mfX00 w h)) hown hK hw m_a0 o_a0 rfl 11 (by decide) (hts _ (List.mem_cons_of_mem _ (mr3 _ (List.mem_of_getElem? (i := 2) rfl)))) (fun _ h => h) tyX0 tyX0_ok nmX0 rfl hnm rfl (ty := tyX0 11) (by decide +kernel) rfl rfl rfl dX0_init_9 (fun H locs hw => ?_)
  obtain ⟨f_3, ef_3⟩ : ∃ g : Nat → va_E, g = pU f_2 a0 11 (.ref q_1) := ⟨_, rfl⟩
  rw [← ef_3] at hw
  have oo := o_a0
  have hq : ∀ x : Nat, x ≠ a0 → f_3 x = f_2 x := fun x h => by rw [ef_3]; exact pU_ne h
  have hX : Sh f_2 f_3 := by rw [ef_3]; exact Sh_pU oo rfl rfl
  have o_a0 := hX.1 _ _ o_a0
  have o_a1 := Rl.mono hX o_a1
  have o_q_1 := hX.2.1 _ _ _ o_q_1
  have hg := hg.off (fun x h => hq x (fun z => (hMc x h).elim (fun h => hn0 (z ▸ h)) (fun h => h (z ▸ ha0))))
  have hO : ∀ x ∈ L0, x ≠ a0 → f_3 x = f0 x := fun x m h => (hq x h).trans (hO x m h)
  have i_10 := (show fI f_3 a0 10 = fI f_2 a0 10 by rw [ef_3]; exact fI_pU (Or.inr (by decide))).trans i_10
  have w_11 : fR f_3 a0 11 = some q_1 := by rw [ef_3]; exact fR_pU_self oo rfl
  refine lv_aload_n hx hb dX0_init_12 rfl (lv_at hl 0 rfl) ?_
  refine q_bipush hx hb dX0_init_13 rfl ?_
  refine q_newI (n := 16) (cA := cy.2.1) hx hb (hts _ (List.mem_cons_of_mem _ (mr3 _ (List.mem_of_getElem? (i := 1) rfl)))) rfl rfl 1 rfl hK hw hA (by decide) (by decide) (by show 0 + 1 + 1 ≤ 2; omega) (by show 0 + 16 + 16 ≤ 32; omega) dX0_init_15 (fun q_4 H n_q_4 hw => ?_)
  obtain ⟨f_5, ef_5⟩ : ∃ g : Nat → va_E, g = va_up f_3 q_4 (.inl (cy.2.1, 16, .inl (fun _ => 0))) := ⟨_, rfl⟩
  rw [← ef_5] at hw
  have hq : ∀ x ∈ (L0 ++ [q_1]), f_5 x = f_3 x := fun x h => by rw [ef_5]; exact va_up_ne _ _ (fun z => n_q_4 (z ▸ h))
  have o_a0 := Ob_of (hq _ m_a0) o_a0
  have o_a1 := Rl_of (hq _ m_a1) o_a1
  have o_q_1 := ArI_of (hq _ m_q_1) o_q_1
  have w_11 := (fR_of (k := 11) (hq _ m_a0)).trans w_11
  have i_10 := (fI_of (k := 10) (hq _ m_a0)).trans i_10
  have hO : ∀ x ∈ L0, x ≠ a0 → f_5 x = f0 x := fun x m h => (hq x (hs x m)).trans (hO x m h)
  have hg := hg.off (fun x h => hq x (hML x h))
  have ne_a0 : a0 ≠ q_4 := fun z => n_q_4 (z ▸ m_a0)
  have m_a0 : a0 ∈ (L0 ++ [q_1]) ++ [q_4] := List.mem_append_left _ m_a0
  have ne_a1 : a1 ≠ q_4 := fun z => n_q_4 (z ▸ m_a1)
  have m_a1 : a1 ∈ (L0 ++ [q_1]) ++ [q_4] := List.mem_append_left _ m_a1
  have ne_q_1 : q_1 ≠ q_4 := fun z => n_q_4 (z ▸ m_q_1)
  have m_q_1 : q_1 ∈ (L0 ++ [q_1]) ++ [q_4] := List.mem_append_left _ m_q_1
  have m_q_4 : q_4 ∈ (L0 ++ [q_1]) ++ [q_4] := List.mem_append_right _ (List.mem_singleton.mpr rfl)
  have nq_q_4 : q_4 ∉ L0 := fun z => n_q_4 (hs _ z)
  have nm_q_4 : q_4 ∉ (M ++ [q_1]) := fun z => n_q_4 (hML _ z)
  have hs : ∀ x ∈ L0, x ∈ (L0 ++ [q_1]) ++ [q_4] := fun x h => List.mem_append_left _ (hs x h)
  have o_q_4 : ArI f_5 q_4 cy.2.1 16 := by rw [ef_5]; exact ⟨_, va_up_self _ _ _⟩
  have hg := hg.addI o_q_4
  have mg_a1 : a1 ∈ (M ++ [q_1]) ++ [q_4] := List.mem_append_left _ mg_a1
  have mg_q_1 : q_1 ∈ (M ++ [q_1]) ++ [q_4] := List.mem_append_left _ mg_q_1
  have mg_q_4 : q_4 ∈ (M ++ [q_1]) ++ [q_4] := List.mem_append_right _ (List.mem_singleton.mpr rfl)
  have hML : ∀ x ∈ (M ++ [q_1]) ++ [q_4], x ∈ (L0 ++ [q_1]) ++ [q_4] := fun x h => (List.mem_append.mp h).elim (fun h => List.mem_append_left _ (hML x h)) (fun h => by rw [List.mem_singleton.mp h]; exact m_q_4)
  have hM0 : ∀ x ∈ M, x ∈ (M ++ [q_1]) ++ [q_4] := fun x h => List.mem_append_left _ (hM0 x h)
  have hMc : ∀ x ∈ (M ++ [q_1]) ++ [q_4], x ∈ M ∨ x ∉ L0 := fun x h => (List.mem_append.mp h).elim (fun h => hMc x h) (fun h => by rw [List.mem_singleton.mp h]; exact Or.inr nq_q_4)
  have hc : ∀ x ∈ (L0 ++ [q_1]) ++ [q_4], x ∈ L0 ∨ x ∈ ((M ++ [q_1]) ++ [q_4]) ∨ x ∈ ([] : List Nat) := fun x h => (List.mem_append.mp h).elim (fun h => (hc x h).elim Or.inl (fun h => h.elim (fun h => Or.inr (Or.inl (List.mem_append_left _ h))) (fun h => Or.inr (Or.inr h)))) (fun h => Or.inr (Or.inl (List.mem_append_right _ h)))
  refine q_putFr (ci := 0) (C := RX0) (T := TX0) (N := 15) hx hb hts (fun w h => List.mem_cons_of_mem _ (mfX00 w h)) hown hK hw m_a0 o_a0 rfl 12 (by decide) (hts _ (List.mem_cons_of_mem _ (mr3 _ (List.mem_of_getElem? (i := 3) rfl)))) (fun _ h => h) tyX0 tyX0_ok nmX0 rfl hnm rfl (ty := tyX0 12) (by decide +kernel) rfl rfl rfl dX0_init_17 (fun H locs hw => ?_)
  obtain ⟨f_6, ef_6⟩ : ∃ g : Nat → va_E, g = pU f_5 a0 12 (.ref q_4) := ⟨_, rfl⟩
  rw [← ef_6] at hw
  have oo := o_a0
  have hq : ∀ x : Nat, x ≠ a0 → f_6 x = f_5 x := fun x h => by rw [ef_6]; exact pU_ne h
  have hX : Sh f_5 f_6 := by rw [ef_6]; exact Sh_pU oo rfl rfl
  have o_a0 := hX.1 _ _ o_a0
  have o_a1 := Rl.mono hX o_a1
  have o_q_1 := hX.2.1 _ _ _ o_q_1
  have o_q_4 := hX.2.1 _ _ _ o_q_4
  have hg := hg.off (fun x h => hq x (fun z => (hMc x h).elim (fun h => hn0 (z ▸ h)) (fun h => h (z ▸ ha0))))
  have hO : ∀ x ∈ L0, x ≠ a0 → f_6 x = f0 x := fun x m h => (hq x h).trans (hO x m h)
  have w_11 : fR f_6 a0 11 = some q_1 := by rw [ef_6, fR_pU (Or.inr (by decide))]; exact w_11
  have i_10 := (show fI f_6 a0 10 = fI f_5 a0 10 by rw [ef_6]; exact fI_pU (Or.inr (by decide))).trans i_10
  have w_12 : fR f_6 a0 12 = some q_4 := by rw [ef_6]; exact fR_pU_self oo rfl
  refine lv_aload_n hx hb dX0_init_20 rfl (lv_at hl 0 rfl) ?_
  refine lv_aload_n hx hb dX0_init_21 rfl (lv_at hl 1 rfl) ?_
  refine q_putr (ci := 0) (C := RX0) (T := TX0) (N := 15) hx hb hts (fun w h => List.mem_cons_of_mem _ (mfX00 w h)) hown hK hw m_a0 o_a0 rfl 3 (by decide) (hts _ (List.mem_cons_of_mem _ (mr3 _ (List.mem_of_getElem? (i := 4) rfl)))) (fun _ h => h) tyX0 tyX0_ok nmX0 rfl (ty := tyX0 3) (by decide +kernel) rfl rfl rfl dX0_init_22 (fun H locs hw => ?_)
  obtain ⟨f_7, ef_7⟩ : ∃ g : Nat → va_E, g = pU f_6 a0 3 (.ref a1) := ⟨_, rfl⟩
  rw [← ef_7] at hw
  have oo := o_a0
  have hq : ∀ x : Nat, x ≠ a0 → f_7 x = f_6 x := fun x h => by rw [ef_7]; exact pU_ne h
  have hX : Sh f_6 f_7 := by rw [ef_7]; exact Sh_pU oo rfl rfl
  have o_a0 := hX.1 _ _ o_a0
  have o_a1 := Rl.mono hX o_a1
  have o_q_1 := hX.2.1 _ _ _ o_q_1
  have o_q_4 := hX.2.1 _ _ _ o_q_4
  have hg := hg.off (fun x h => hq x (fun z => (hMc x h).elim (fun h => hn0 (z ▸ h)) (fun h => h (z ▸ ha0))))
  have hO : ∀ x ∈ L0, x ≠ a0 → f_7 x = f0 x := fun x m h => (hq x h).trans (hO x m h)
  have w_11 : fR f_7 a0 11 = some q_1 := by rw [ef_7, fR_pU (Or.inr (by decide))]; exact w_11
  have w_12 : fR f_7 a0 12 = some q_4 := by rw [ef_7, fR_pU (Or.inr (by decide))]; exact w_12
  have i_10 := (show fI f_7 a0 10 = fI f_6 a0 10 by rw [ef_7]; exact fI_pU (Or.inr (by decide))).trans i_10
  have w_3 : fR f_7 a0 3 = some a1 := by rw [ef_7]; exact fR_pU_self oo rfl
  have q_11 : fR f_7 a0 11 = some q_1 ∧ q_1 ∈ ((M ++ [q_1]) ++ [q_4]) ++ [a0] ∧ _ := ⟨w_11, List.mem_append_left _ mg_q_1, o_q_1⟩
  have q_12 : fR f_7 a0 12 = some q_4 ∧ q_4 ∈ ((M ++ [q_1]) ++ [q_4]) ++ [a0] ∧ _ := ⟨w_12, List.mem_append_left _ mg_q_4, o_q_4⟩
  have q_3 : fR f_7 a0 3 = some a1 ∧ a1 ∈ ((M ++ [q_1]) ++ [q_4]) ++ [a0] ∧ _ := ⟨w_3, List.mem_append_left _ mg_a1, o_a1⟩
  have hg := hg.addOb o_a0 (fcond_0 (by rw [i_10]; exact h10)) (rcond_0 q_3 q_11 q_12)
  exact q_ret_v hx hb hr hlocks hK hAe hw (by show 0 + 1 + 1 ≤ 2; omega) (by show 0 + 16 + 16 ≤ 32; omega) dX0_init_25 ⟨((M ++ [q_1]) ++ [q_4]) ++ [a0], fun x h => List.mem_append_left _ (hM0 x h), fun x h => (List.mem_append.mp h).elim (fun h => hML x h) (fun h => by rw [List.mem_singleton.mp h]; exact m_a0), fun x h => (List.mem_append.mp h).elim (fun h => (hMc x h).elim Or.inl (fun h => Or.inr (Or.inr h))) (fun h => Or.inr (Or.inl (List.mem_singleton.mp h))), List.mem_append_right _ (List.mem_singleton.mpr rfl), hs, fun x h => (hc x h).elim Or.inl (fun h => h.elim (fun h => Or.inr (List.mem_append_left _ h)) (fun h => absurd h List.not_mem_nil)), hg, hO, o_a0⟩