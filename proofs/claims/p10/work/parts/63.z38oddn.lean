/-! ===== the start, the law's onAt: with the odds ===== -/
set_option maxHeartbeats 4000000 in
set_option maxRecDepth 100000 in
theorem c_X9_init_o {Z : Zt} (zo : Zok Z) (l : Launch) (D : va_G) (cy : Cy) (L0 : List Nat) (f0 : Nat → va_E) (a0 : Nat) (m_a0 : a0 ∈ L0) (o_a0 : Ob f0 a0 7) (M : List Nat) (hM : ∀ x ∈ M, x ∈ L0) (hg : GI cy M f0) (hn0 : a0 ∉ M) : Cv Z l yX9_init (Cond.code yX9_init cX9_init 1 none :: TB) ({ frames := 4, cells := 41, slots := 751, locals := 86 } : Room) 41 751 D (tq cy) [.ref a0] L0 f0 (fun (L1 : List Nat) (f1 : Nat → va_E) => PA cy M L0 f0 a0 7 L1 f1 ∧ fI f1 a0 1 = 0 ∧ (∃ tp : Nat, fR f1 a0 0 = some tp ∧ ∀ j : Int, aI f1 tp j = 0) ∧ ∃ (rq : Int → Nat) (sh im : Nat), fR f1 a0 2 = some sh ∧ SF f1 sh rq ∧ fI f1 sh 1 = 0 ∧ ARS f1 rq ∧ fR f1 a0 3 = some im ∧ ∀ j : Int, aR f1 im j = none) := by
  refine Cv.enter (cc := cX9_init) (n := 1) rfl (plainFor_of_name (by decide)) (Nat.le_of_ble_eq_true rfl) ?_
  intro p e s m below meth c ls A hx hb hr hts hown hlocks hnm hml hK hA hAe hw hZ hl
  have hown : s.vm.findClass RX9 = some m.cls := hown
  have hl : lv_has ls 1 [(0, .ref a0)] := hl
  have hN : ZN s := (zo.2.2.2.2 _ _ _ hZ).2
  have ha0 := m_a0
  have hML := hM
  have hM0 : ∀ x ∈ M, x ∈ M := fun _ h => h
  have hMc : ∀ x ∈ M, x ∈ M ∨ x ∉ L0 := fun _ h => Or.inl h
  have hs : ∀ x ∈ L0, x ∈ L0 := fun _ h => h
  have hc : ∀ x ∈ L0, x ∈ L0 ∨ x ∈ M ∨ x ∈ ([] : List Nat) := fun _ h => Or.inl h
  have hO : ∀ x ∈ L0, x ≠ a0 → f0 x = f0 x := fun _ _ _ => rfl
  refine lv_aload_n hx hb dX9_init_0 rfl (lv_at hl 0 rfl) ?_
  refine W.objInit hx hb hown (hts _ (List.mem_cons_of_mem _ (mr1 _ (List.mem_of_getElem? (i := 11) rfl)))) (hts _ (List.mem_cons_of_mem _ (mr1 _ (List.mem_of_getElem? (i := 12) rfl)))) (hts _ (List.mem_cons_of_mem _ (mr1 _ (List.mem_of_getElem? (i := 13) rfl)))) rfl (by rw [hml]; exact hl.1) rfl dX9_init_1 (Nat.le_of_ble_eq_true rfl) (Nat.le_of_ble_eq_true rfl) ?_
  refine W.eq (g2 := F0 m 4 ls []) rfl ?_
  refine lv_aload_n hx hb dX9_init_4 rfl (lv_at hl 0 rfl) ?_
  refine q_sipush hx hb dX9_init_5 rfl ?_
  refine q_newI (n := 168) (cA := cy.1) hx hb (hts _ (List.mem_cons_of_mem _ (mr1 _ (List.mem_of_getElem? (i := 14) rfl)))) rfl rfl 0 rfl hK hw hA (by decide) (by decide) (by show 0 + 1 ≤ 41; omega) (by show 0 + 168 ≤ 751; omega) dX9_init_8 (fun q_1 H n_q_1 hw => ?_)
  obtain ⟨f_2, ef_2⟩ : ∃ g : Nat → va_E, g = va_up f0 q_1 (.inl (cy.1, 168, .inl (fun _ => 0))) := ⟨_, rfl⟩
  rw [← ef_2] at hw
  have hq : ∀ x ∈ L0, f_2 x = f0 x := fun x h => by rw [ef_2]; exact va_up_ne _ _ (fun z => n_q_1 (z ▸ h))
  have o_a0 := Ob_of (hq _ m_a0) o_a0
  have hO : ∀ x ∈ L0, x ≠ a0 → f_2 x = f0 x := fun x m h => (hq x (hs x m)).trans (hO x m h)
  have hg := hg.off (fun x h => hq x (hML x h))
  have ne_a0 : a0 ≠ q_1 := fun z => n_q_1 (z ▸ m_a0)
  have m_a0 : a0 ∈ L0 ++ [q_1] := List.mem_append_left _ m_a0
  have m_q_1 : q_1 ∈ L0 ++ [q_1] := List.mem_append_right _ (List.mem_singleton.mpr rfl)
  have nq_q_1 : q_1 ∉ L0 := fun z => n_q_1 (hs _ z)
  have nm_q_1 : q_1 ∉ M := fun z => n_q_1 (hML _ z)
  have hs : ∀ x ∈ L0, x ∈ L0 ++ [q_1] := fun x h => List.mem_append_left _ (hs x h)
  have o_q_1 : ArI f_2 q_1 cy.1 168 := by rw [ef_2]; exact ⟨_, va_up_self _ _ _⟩
  have zt : ∀ j : Int, aI f_2 q_1 j = 0 := fun j => by rw [ef_2]; exact aI_new _ _ _ _ _
  have hg := hg.addI o_q_1
  have mg_q_1 : q_1 ∈ M ++ [q_1] := List.mem_append_right _ (List.mem_singleton.mpr rfl)
  have hML : ∀ x ∈ M ++ [q_1], x ∈ L0 ++ [q_1] := fun x h => (List.mem_append.mp h).elim (fun h => List.mem_append_left _ (hML x h)) (fun h => by rw [List.mem_singleton.mp h]; exact m_q_1)
  have hM0 : ∀ x ∈ M, x ∈ M ++ [q_1] := fun x h => List.mem_append_left _ (hM0 x h)
  have hMc : ∀ x ∈ M ++ [q_1], x ∈ M ∨ x ∉ L0 := fun x h => (List.mem_append.mp h).elim (fun h => hMc x h) (fun h => by rw [List.mem_singleton.mp h]; exact Or.inr nq_q_1)
  have hc : ∀ x ∈ L0 ++ [q_1], x ∈ L0 ∨ x ∈ (M ++ [q_1]) ∨ x ∈ ([] : List Nat) := fun x h => (List.mem_append.mp h).elim (fun h => (hc x h).elim Or.inl (fun h => h.elim (fun h => Or.inr (Or.inl (List.mem_append_left _ h))) (fun h => Or.inr (Or.inr h)))) (fun h => Or.inr (Or.inl (List.mem_append_right _ h)))
  refine q_putFr (ci := 7) (C := RX9) (T := TX9) (N := 4) hx hb hts (fun w h => List.mem_cons_of_mem _ (mfX90 w h)) hown hK hw m_a0 o_a0 rfl 0 (by decide) (hts _ (List.mem_cons_of_mem _ (mr1 _ (List.mem_of_getElem? (i := 15) rfl)))) (fun _ h => h) tyX9 tyX9_ok nmX9 rfl hnm rfl (ty := tyX9 0) (by decide +kernel) rfl rfl rfl dX9_init_10 (fun H locs hw => ?_)
  obtain ⟨f_3, ef_3⟩ : ∃ g : Nat → va_E, g = pU f_2 a0 0 (.ref q_1) := ⟨_, rfl⟩
  rw [← ef_3] at hw
  have oo := o_a0
  have hq : ∀ x : Nat, x ≠ a0 → f_3 x = f_2 x := fun x h => by rw [ef_3]; exact pU_ne h
  have hX : Sh f_2 f_3 := by rw [ef_3]; exact Sh_pU oo rfl rfl
  have o_a0 := hX.1 _ _ o_a0
  have o_q_1 := hX.2.1 _ _ _ o_q_1
  have zt := fun j : Int => (aI_ofc (j := j) (hq q_1 (fun z => nq_q_1 (z ▸ ha0)))).trans (zt j)
  have hg := hg.off (fun x h => hq x (fun z => (hMc x h).elim (fun h => hn0 (z ▸ h)) (fun h => h (z ▸ ha0))))
  have hO : ∀ x ∈ L0, x ≠ a0 → f_3 x = f0 x := fun x m h => (hq x h).trans (hO x m h)
  have w_0 : fR f_3 a0 0 = some q_1 := by rw [ef_3]; exact fR_pU_self oo rfl
  refine lv_aload_n hx hb dX9_init_13 rfl (lv_at hl 0 rfl) ?_
  refine q_iconst hx hb dX9_init_14 ?_
  refine q_puti (ci := 7) (C := RX9) (T := TX9) (N := 4) hx hb hts (fun w h => List.mem_cons_of_mem _ (mfX90 w h)) hown hK hw m_a0 o_a0 rfl 1 (by decide) (hts _ (List.mem_cons_of_mem _ (mr1 _ (List.mem_of_getElem? (i := 16) rfl)))) (fun _ h => h) tyX9 tyX9_ok nmX9 rfl (ty := .int) (by decide +kernel) rfl rfl dX9_init_15 (fun H locs hw => ?_)
  obtain ⟨f_4, ef_4⟩ : ∃ g : Nat → va_E, g = pU f_3 a0 1 (.int (iI 0)) := ⟨_, rfl⟩
  rw [← ef_4] at hw
  have oo := o_a0
  have hq : ∀ x : Nat, x ≠ a0 → f_4 x = f_3 x := fun x h => by rw [ef_4]; exact pU_ne h
  have hX : Sh f_3 f_4 := by rw [ef_4]; exact Sh_pU oo rfl rfl
  have o_a0 := hX.1 _ _ o_a0
  have o_q_1 := hX.2.1 _ _ _ o_q_1
  have zt := fun j : Int => (aI_ofc (j := j) (hq q_1 (fun z => nq_q_1 (z ▸ ha0)))).trans (zt j)
  have hg := hg.off (fun x h => hq x (fun z => (hMc x h).elim (fun h => hn0 (z ▸ h)) (fun h => h (z ▸ ha0))))
  have hO : ∀ x ∈ L0, x ≠ a0 → f_4 x = f0 x := fun x m h => (hq x h).trans (hO x m h)
  have w_0 : fR f_4 a0 0 = some q_1 := by rw [ef_4, fR_pU (Or.inr (by decide))]; exact w_0
  have i_1 : fI f_4 a0 1 = 0 := by rw [ef_4]; exact fI_pU_self oo rfl ⟨by decide, by decide⟩
  refine lv_aload_n hx hb dX9_init_18 rfl (lv_at hl 0 rfl) ?_
  refine q_new (ci := 5) (C := RX7) (T := TX7) (N := 2) (fs := [.null, .int 0]) hx hb hts (fun w h => List.mem_cons_of_mem _ (mfX70 w h)) tyX7 tyX7_ok hown (hts _ (List.mem_cons_of_mem _ (mr1 _ (List.mem_of_getElem? (i := 17) rfl)))) (hts _ (List.mem_cons_of_mem _ (mr1 _ (List.mem_of_getElem? (i := 18) rfl)))) (hts _ (List.mem_cons_of_mem _ (mr1 _ (List.mem_of_getElem? (i := 19) rfl)))) hK hw hA rfl (by decide) (by show 0 + 1 + 1 ≤ 41; omega) (by show 0 + 168 + 2 ≤ 751; omega) dX9_init_19 (fun q_5 H n_q_5 hw => ?_)
  obtain ⟨f_6, ef_6⟩ : ∃ g : Nat → va_E, g = va_up f_4 q_5 (.inr (5, [.null, .int 0])) := ⟨_, rfl⟩
  rw [← ef_6] at hw
  have hq : ∀ x ∈ (L0 ++ [q_1]), f_6 x = f_4 x := fun x h => by rw [ef_6]; exact va_up_ne _ _ (fun z => n_q_5 (z ▸ h))
  have o_a0 := Ob_of (hq _ m_a0) o_a0
  have o_q_1 := ArI_of (hq _ m_q_1) o_q_1
  have zt := fun j : Int => (aI_ofc (j := j) (hq _ m_q_1)).trans (zt j)
  have w_0 := (fR_of (k := 0) (hq _ m_a0)).trans w_0
  have i_1 := (fI_of (k := 1) (hq _ m_a0)).trans i_1
  have hO : ∀ x ∈ L0, x ≠ a0 → f_6 x = f0 x := fun x m h => (hq x (hs x m)).trans (hO x m h)
  have hg := hg.off (fun x h => hq x (hML x h))
  have ne_a0 : a0 ≠ q_5 := fun z => n_q_5 (z ▸ m_a0)
  have m_a0 : a0 ∈ (L0 ++ [q_1]) ++ [q_5] := List.mem_append_left _ m_a0
  have ne_q_1 : q_1 ≠ q_5 := fun z => n_q_5 (z ▸ m_q_1)
  have m_q_1 : q_1 ∈ (L0 ++ [q_1]) ++ [q_5] := List.mem_append_left _ m_q_1
  have m_q_5 : q_5 ∈ (L0 ++ [q_1]) ++ [q_5] := List.mem_append_right _ (List.mem_singleton.mpr rfl)
  have nq_q_5 : q_5 ∉ L0 := fun z => n_q_5 (hs _ z)
  have nm_q_5 : q_5 ∉ (M ++ [q_1]) := fun z => n_q_5 (hML _ z)
  have hs : ∀ x ∈ L0, x ∈ (L0 ++ [q_1]) ++ [q_5] := fun x h => List.mem_append_left _ (hs x h)
  have o_q_5 : Ob f_6 q_5 5 := by rw [ef_6]; exact ⟨_, va_up_self _ _ _, rfl⟩
  have hML : ∀ x ∈ (M ++ [q_1]), x ∈ (L0 ++ [q_1]) ++ [q_5] := fun x h => List.mem_append_left _ (hML x h)
  have hc : ∀ x ∈ (L0 ++ [q_1]) ++ [q_5], x ∈ L0 ∨ x ∈ (M ++ [q_1]) ∨ x ∈ ([q_5]) := fun x h => (List.mem_append.mp h).elim (fun h => (hc x h).elim Or.inl (fun h => h.elim (fun h => Or.inr (Or.inl h)) (fun h => Or.inr (Or.inr (List.mem_append_left [q_5] h))))) (fun h => Or.inr (Or.inr (List.mem_append_right [] h)))
  refine lv_dup hx hb dX9_init_22 rfl ?_
  refine q_call_v hA hK hw (va_runI (As := []) (rest := [.ref q_5, .ref a0]) ⟨hx, hb, hml, hown, hts⟩ (c_X7_init_o zo l D cy ((L0 ++ [q_1]) ++ [q_5]) f_6 q_5 m_q_5 o_q_5 (M ++ [q_1]) hML hg nm_q_5 _) (cwI 0 hts (gT (inC (mr2 _ (List.mem_of_getElem? (i := 0) rfl)))) rfl rfl rfl (hts _ (List.mem_cons_of_mem _ (mr1 _ (List.mem_of_getElem? (i := 19) rfl)))) (hts _ (List.mem_cons_of_mem _ (mr1 _ (List.mem_of_getElem? (i := 22) rfl)))) (hts _ (List.mem_cons_of_mem _ (mr1 _ (List.mem_of_getElem? (i := 23) rfl)))) rfl (by decide +kernel) ⟨Nat.le_of_ble_eq_true rfl, Nat.le_of_ble_eq_true rfl⟩) (Wd.preS zo hA hZ hw hK) rfl rfl hl.1 rfl (lv_room (Nat.le_of_ble_eq_true rfl)) dX9_init_23 ⟨(by show 0 + 1 + 1 + 38 ≤ 41; omega), (by show 0 + 168 + 2 + 579 ≤ 751; omega)⟩) (fun L_9 f_8 H locs ex_7 hw => ?_)
  obtain ⟨⟨M_10, p1, p2, p3, mg_q_5, p5, p6, hg, hq, o_q_5⟩, ⟨rq, sf, fq, ann⟩, z1⟩ := ex_7
  have ars := ann.1
  have o_a0 := Ob_of (hq _ m_a0 ne_a0) o_a0
  have o_q_1 := ArI_of (hq _ m_q_1 ne_q_1) o_q_1
  have zt := fun j : Int => (aI_ofc (j := j) (hq _ m_q_1 ne_q_1)).trans (zt j)
  have w_0 := (fR_of (k := 0) (hq _ m_a0 ne_a0)).trans w_0
  have i_1 := (fI_of (k := 1) (hq _ m_a0 ne_a0)).trans i_1
  have hO : ∀ x ∈ L0, x ≠ a0 → f_8 x = f0 x := fun x m h => (hq x (hs x m) (fun z => nq_q_5 (z ▸ m))).trans (hO x m h)
  have mg_q_1 := p1 _ mg_q_1
  have hMc : ∀ x ∈ M_10, x ∈ M ∨ x ∉ L0 := fun x h => (p3 x h).elim (fun h => hMc x h) (fun h => h.elim (fun h => Or.inr (by rw [h]; exact nq_q_5)) (fun h => Or.inr (fun z => h (hs x z))))
  have m_a0 := p5 _ m_a0
  have m_q_1 := p5 _ m_q_1
  have m_q_5 := p5 _ m_q_5
  have hML := p2
  have hM0 : ∀ x ∈ M, x ∈ M_10 := fun x h => p1 x (hM0 x h)
  have hs : ∀ x ∈ L0, x ∈ L_9 := fun x h => p5 x (hs x h)
  have hc : ∀ x ∈ L_9, x ∈ L0 ∨ x ∈ M_10 ∨ x ∈ ([] : List Nat) := fun x h => by
    rcases p6 x h with h | h
    · rcases hc x h with h | h | h
      · exact Or.inl h
      · exact Or.inr (Or.inl (p1 _ h))
      · rcases List.mem_append.mp (show x ∈ ([] : List Nat) ++ [q_5] from h) with h | h
        · exact Or.inr (Or.inr h)
        · exact Or.inr (Or.inl (by rw [List.mem_singleton.mp h]; exact mg_q_5))
    · exact Or.inr (Or.inl h)
  refine q_putFr (ci := 7) (C := RX9) (T := TX9) (N := 4) hx hb hts (fun w h => List.mem_cons_of_mem _ (mfX90 w h)) hown hK hw m_a0 o_a0 rfl 2 (by decide) (hts _ (List.mem_cons_of_mem _ (mr1 _ (List.mem_of_getElem? (i := 20) rfl)))) (fun _ h => h) tyX9 tyX9_ok nmX9 rfl hnm rfl (ty := tyX9 2) (by decide +kernel) rfl rfl rfl dX9_init_26 (fun H locs hw => ?_)
  obtain ⟨f_11, ef_11⟩ : ∃ g : Nat → va_E, g = pU f_8 a0 2 (.ref q_5) := ⟨_, rfl⟩
  rw [← ef_11] at hw
  have oo := o_a0
  have hq : ∀ x : Nat, x ≠ a0 → f_11 x = f_8 x := fun x h => by rw [ef_11]; exact pU_ne h
  have hX : Sh f_8 f_11 := by rw [ef_11]; exact Sh_pU oo rfl rfl
  have o_a0 := hX.1 _ _ o_a0
  have o_q_1 := hX.2.1 _ _ _ o_q_1
  have zt := fun j : Int => (aI_ofc (j := j) (hq q_1 (fun z => nq_q_1 (z ▸ ha0)))).trans (zt j)
  have o_q_5 := hX.1 _ _ o_q_5
  have ars := ARS.off ars hg mg_q_5 sf (fun x h => hq x (fun z => (hMc x h).elim (fun h => hn0 (z ▸ h)) (fun h => h (z ▸ ha0))))
  have sf := SF.off hg mg_q_5 sf (fun x h => hq x (fun z => (hMc x h).elim (fun h => hn0 (z ▸ h)) (fun h => h (z ▸ ha0))))
  have z1 := (fI_of (k := 1) (hq q_5 (fun z => nq_q_5 (z ▸ ha0)))).trans z1
  have hg := hg.off (fun x h => hq x (fun z => (hMc x h).elim (fun h => hn0 (z ▸ h)) (fun h => h (z ▸ ha0))))
  have hO : ∀ x ∈ L0, x ≠ a0 → f_11 x = f0 x := fun x m h => (hq x h).trans (hO x m h)
  have w_0 : fR f_11 a0 0 = some q_1 := by rw [ef_11, fR_pU (Or.inr (by decide))]; exact w_0
  have i_1 := (show fI f_11 a0 1 = fI f_8 a0 1 by rw [ef_11]; exact fI_pU (Or.inr (by decide))).trans i_1
  have w_2 : fR f_11 a0 2 = some q_5 := by rw [ef_11]; exact fR_pU_self oo rfl
  refine lv_aload_n hx hb dX9_init_29 rfl (lv_at hl 0 rfl) ?_
  refine q_iconst hx hb dX9_init_30 ?_
  refine q_newR (n := 2) (cA := cy.2.2.2.2) (C := RX7) hx hb hown (hts _ (List.mem_cons_of_mem _ (mr1 _ (List.mem_of_getElem? (i := 17) rfl)))) (hN _ (List.mem_of_getElem? (i := 20) rfl)) 4 rfl hK hw hA (by decide) (by decide) (by show 0 + 1 + 1 + 38 + 1 ≤ 41; omega) (by show 0 + 168 + 2 + 579 + 2 ≤ 751; omega) dX9_init_31 (fun q_12 H n_q_12 hw => ?_)
  obtain ⟨f_13, ef_13⟩ : ∃ g : Nat → va_E, g = va_up f_11 q_12 (.inl (cy.2.2.2.2, 2, .inr (.inr (.inr (.inr (fun _ => none)))))) := ⟨_, rfl⟩
  rw [← ef_13] at hw
  have hq : ∀ x ∈ L_9, f_13 x = f_11 x := fun x h => by rw [ef_13]; exact va_up_ne _ _ (fun z => n_q_12 (z ▸ h))
  have o_a0 := Ob_of (hq _ m_a0) o_a0
  have o_q_1 := ArI_of (hq _ m_q_1) o_q_1
  have zt := fun j : Int => (aI_ofc (j := j) (hq _ m_q_1)).trans (zt j)
  have o_q_5 := Ob_of (hq _ m_q_5) o_q_5
  have w_0 := (fR_of (k := 0) (hq _ m_a0)).trans w_0
  have w_2 := (fR_of (k := 2) (hq _ m_a0)).trans w_2
  have i_1 := (fI_of (k := 1) (hq _ m_a0)).trans i_1
  have hO : ∀ x ∈ L0, x ≠ a0 → f_13 x = f0 x := fun x m h => (hq x (hs x m)).trans (hO x m h)
  have ars := ARS.off ars hg mg_q_5 sf (fun x h => hq x (hML x h))
  have sf := SF.off hg mg_q_5 sf (fun x h => hq x (hML x h))
  have z1 := (fI_of (k := 1) (hq _ m_q_5)).trans z1
  have hg := hg.off (fun x h => hq x (hML x h))
  have ne_a0 : a0 ≠ q_12 := fun z => n_q_12 (z ▸ m_a0)
  have m_a0 : a0 ∈ L_9 ++ [q_12] := List.mem_append_left _ m_a0
  have ne_q_1 : q_1 ≠ q_12 := fun z => n_q_12 (z ▸ m_q_1)
  have m_q_1 : q_1 ∈ L_9 ++ [q_12] := List.mem_append_left _ m_q_1
  have ne_q_5 : q_5 ≠ q_12 := fun z => n_q_12 (z ▸ m_q_5)
  have m_q_5 : q_5 ∈ L_9 ++ [q_12] := List.mem_append_left _ m_q_5
  have m_q_12 : q_12 ∈ L_9 ++ [q_12] := List.mem_append_right _ (List.mem_singleton.mpr rfl)
  have nq_q_12 : q_12 ∉ L0 := fun z => n_q_12 (hs _ z)
  have nm_q_12 : q_12 ∉ M_10 := fun z => n_q_12 (hML _ z)
  have hs : ∀ x ∈ L0, x ∈ L_9 ++ [q_12] := fun x h => List.mem_append_left _ (hs x h)
  have o_q_12 : ArR f_13 q_12 cy.2.2.2.2 2 := by rw [ef_13]; exact ⟨_, va_up_self _ _ _⟩
  have hML : ∀ x ∈ M_10, x ∈ L_9 ++ [q_12] := fun x h => List.mem_append_left _ (hML x h)
  have hc : ∀ x ∈ L_9 ++ [q_12], x ∈ L0 ∨ x ∈ M_10 ∨ x ∈ ([q_12]) := fun x h => (List.mem_append.mp h).elim (fun h => (hc x h).elim Or.inl (fun h => h.elim (fun h => Or.inr (Or.inl h)) (fun h => Or.inr (Or.inr (List.mem_append_left [q_12] h))))) (fun h => Or.inr (Or.inr (List.mem_append_right [] h)))
  have hg := hg.add (q := q_12) (fun _ _ o' => absurd o_q_12 o'.notR) (fun _ _ o' => absurd o_q_12 o'.notR) (fun j o' h0 h1 => absurd (o_q_12.uniq o').2 (by decide)) (fun j o' h0 h1 => Or.inl (by rw [ef_13]; exact aR_none _ _ _ _ _))
  have imn : ∀ j : Int, aR f_13 q_12 j = none := fun j => by rw [ef_13]; exact aR_none _ _ _ _ _
  have mg_q_1 : q_1 ∈ M_10 ++ [q_12] := List.mem_append_left _ mg_q_1
  have mg_q_5 : q_5 ∈ M_10 ++ [q_12] := List.mem_append_left _ mg_q_5
  have mg_q_12 : q_12 ∈ M_10 ++ [q_12] := List.mem_append_right _ (List.mem_singleton.mpr rfl)
  have hML : ∀ x ∈ M_10 ++ [q_12], x ∈ (L_9 ++ [q_12]) := fun x h => (List.mem_append.mp h).elim (fun h => hML x h) (fun h => by rw [List.mem_singleton.mp h]; exact m_q_12)
  have hM0 : ∀ x ∈ M, x ∈ M_10 ++ [q_12] := fun x h => List.mem_append_left _ (hM0 x h)
  have hMc : ∀ x ∈ M_10 ++ [q_12], x ∈ M ∨ x ∉ L0 := fun x h => (List.mem_append.mp h).elim (fun h => hMc x h) (fun h => by rw [List.mem_singleton.mp h]; exact Or.inr nq_q_12)
  have hc : ∀ x ∈ (L_9 ++ [q_12]), x ∈ L0 ∨ x ∈ (M_10 ++ [q_12]) ∨ x ∈ ([] : List Nat) := fun x h => by
    rcases hc x h with h | h | h
    · exact Or.inl h
    · exact Or.inr (Or.inl (List.mem_append_left _ h))
    · rcases List.mem_append.mp (show x ∈ ([] : List Nat) ++ [q_12] from h) with h | h
      · exact Or.inr (Or.inr h)
      · exact Or.inr (Or.inl (List.mem_append_right _ h))
  refine q_putFr (ci := 7) (C := RX9) (T := TX9) (N := 4) hx hb hts (fun w h => List.mem_cons_of_mem _ (mfX90 w h)) hown hK hw m_a0 o_a0 rfl 3 (by decide) (hts _ (List.mem_cons_of_mem _ (mr1 _ (List.mem_of_getElem? (i := 21) rfl)))) (fun _ h => h) tyX9 tyX9_ok nmX9 rfl hnm rfl (ty := tyX9 3) (by decide +kernel) rfl rfl rfl dX9_init_34 (fun H locs hw => ?_)
  obtain ⟨f_14, ef_14⟩ : ∃ g : Nat → va_E, g = pU f_13 a0 3 (.ref q_12) := ⟨_, rfl⟩
  rw [← ef_14] at hw
  have oo := o_a0
  have hq : ∀ x : Nat, x ≠ a0 → f_14 x = f_13 x := fun x h => by rw [ef_14]; exact pU_ne h
  have hX : Sh f_13 f_14 := by rw [ef_14]; exact Sh_pU oo rfl rfl
  have o_a0 := hX.1 _ _ o_a0
  have o_q_1 := hX.2.1 _ _ _ o_q_1
  have zt := fun j : Int => (aI_ofc (j := j) (hq q_1 (fun z => nq_q_1 (z ▸ ha0)))).trans (zt j)
  have o_q_5 := hX.1 _ _ o_q_5
  have o_q_12 := hX.2.2 _ _ _ o_q_12
  have ars := ARS.off ars hg mg_q_5 sf (fun x h => hq x (fun z => (hMc x h).elim (fun h => hn0 (z ▸ h)) (fun h => h (z ▸ ha0))))
  have sf := SF.off hg mg_q_5 sf (fun x h => hq x (fun z => (hMc x h).elim (fun h => hn0 (z ▸ h)) (fun h => h (z ▸ ha0))))
  have z1 := (fI_of (k := 1) (hq q_5 (fun z => nq_q_5 (z ▸ ha0)))).trans z1
  have imn : ∀ j : Int, aR f_14 q_12 j = none := fun j => (aR_of (hq q_12 (fun z => nq_q_12 (z ▸ ha0)))).trans (imn j)
  have hg := hg.off (fun x h => hq x (fun z => (hMc x h).elim (fun h => hn0 (z ▸ h)) (fun h => h (z ▸ ha0))))
  have hO : ∀ x ∈ L0, x ≠ a0 → f_14 x = f0 x := fun x m h => (hq x h).trans (hO x m h)
  have w_0 : fR f_14 a0 0 = some q_1 := by rw [ef_14, fR_pU (Or.inr (by decide))]; exact w_0
  have w_2 : fR f_14 a0 2 = some q_5 := by rw [ef_14, fR_pU (Or.inr (by decide))]; exact w_2
  have i_1 := (show fI f_14 a0 1 = fI f_13 a0 1 by rw [ef_14]; exact fI_pU (Or.inr (by decide))).trans i_1
  have w_3 : fR f_14 a0 3 = some q_12 := by rw [ef_14]; exact fR_pU_self oo rfl
  have q_0 : fR f_14 a0 0 = some q_1 ∧ q_1 ∈ (M_10 ++ [q_12]) ++ [a0] ∧ _ := ⟨w_0, List.mem_append_left _ mg_q_1, o_q_1⟩
  have q_2 : fR f_14 a0 2 = some q_5 ∧ q_5 ∈ (M_10 ++ [q_12]) ++ [a0] ∧ _ := ⟨w_2, List.mem_append_left _ mg_q_5, o_q_5⟩
  have q_3 : fR f_14 a0 3 = some q_12 ∧ q_12 ∈ (M_10 ++ [q_12]) ++ [a0] ∧ _ := ⟨w_3, List.mem_append_left _ mg_q_12, o_q_12⟩
  have hg := hg.addOb o_a0 (fcond_7 (by rw [i_1]; decide)) (rcond_7 q_0 q_2 q_3)
  exact q_ret_v hx hb hr hlocks hK hAe hw (by show 0 + 1 + 1 + 38 + 1 ≤ 41; omega) (by show 0 + 168 + 2 + 579 + 2 ≤ 751; omega) dX9_init_37 ⟨⟨(M_10 ++ [q_12]) ++ [a0], fun x h => List.mem_append_left _ (hM0 x h), fun x h => (List.mem_append.mp h).elim (fun h => hML x h) (fun h => by rw [List.mem_singleton.mp h]; exact m_a0), fun x h => (List.mem_append.mp h).elim (fun h => (hMc x h).elim Or.inl (fun h => Or.inr (Or.inr h))) (fun h => Or.inr (Or.inl (List.mem_singleton.mp h))), List.mem_append_right _ (List.mem_singleton.mpr rfl), hs, fun x h => (hc x h).elim Or.inl (fun h => h.elim (fun h => Or.inr (List.mem_append_left _ h)) (fun h => absurd h List.not_mem_nil)), hg, hO, o_a0⟩, i_1, ⟨q_1, w_0, zt⟩, rq, q_5, q_12, w_2, sf, z1, ars, w_3, imn⟩
set_option maxHeartbeats 4000000 in
set_option maxRecDepth 100000 in
theorem c_L_onAt_h {Z : Zt} (zo : Zok Z) (zc : ∀ (A : Nat → Prop) (U : State) (H : Heap), Z A U H → ZE U) (l : Launch) (hlt : l.stackTraces = false) (D : va_G) (cy : Cy) (cL : ClassId) (X : List Nat) (o : Nat) (f0 : Nat → va_E) (a0 : Nat) (x1 : Int) (lx1 : -2147483648 ≤ x1) (ux1 : x1 ≤ 2147483647) (x2 : Int) (lx2 : -2147483648 ≤ x2) (ux2 : x2 ≤ 2147483647) (x3 : Int) (lx3 : -2147483648 ≤ x3) (ux3 : x3 ≤ 2147483647) (x4 : Int) (lx4 : -2147483648 ≤ x4) (ux4 : x4 ≤ 2147483647) (x5 : Int) (lx5 : -2147483648 ≤ x5) (ux5 : x5 ≤ 2147483647) (m_a0 : a0 ∈ X) (o_a0 : Ob f0 a0 7) (hg : GI cy X f0) (ho : ArL f0 o cL) :
    Ci Z l yL_onAt (Cond.codeWith yL_onAt cL_onAt 8 (some .int) [(0, 16, 19, 13)] :: TB) ({ frames := 7, cells := 1, slots := 6, locals := 175 } : Room) 1 6 D (tl cy cL) [.ref a0, .int (iI x1), .int (iI x2), .int (iI x3), .int (iI x4), .int (iI x5), .ref o] (X ++ [o]) f0 (fun (_ : Int) (L1 : List Nat) (f1 : Nat → va_E) => L1 = X ++ [o] ∧ GI cy X f1 ∧ Ob f1 a0 7 ∧ ArL f1 o cL ∧ ∃ u : Nat → va_E, GI cy X u ∧ Eh cy f0 u ∧ ∀ y ∈ X, f1 y = u y) := by
  refine Ci.enterW (cc := cL_onAt) (n := 8) rfl (by decide) (Nat.le_of_ble_eq_true rfl) ?_
  intro p e s m below meth c ls A hx hb hr hts hown hlocks hnm hml htab hK hA hAe hw hZ hl
  have hown : s.vm.findClass RL = some m.cls := hown
  have hl : lv_has ls 8 [(0, .ref a0), (1, .int (iI x1)), (2, .int (iI x2)), (3, .int (iI x3)), (4, .int (iI x4)), (5, .int (iI x5)), (6, .ref o)] := hl
  have hKq : va_K D vwCl (tq cy) s := hK.sub [0, 1, 2, 3, 4] rfl
  have hwX := hw.left
  have hwO := hw.right
  have apO := hw.apart
  have hoX : ∀ x ∈ X, x ∉ [o] := fun x hx ho => apO x ho hx
  have hmo : o ∈ [o] := List.mem_singleton.mpr rfl
  -- the end, over a world of both
  have hend : ∀ (u : Nat → va_E) (H1 : Heap) (locs1 : List Loc), GI cy X u → Eh cy f0 u → Wd D A s.heap X u H1 locs1 → Wd D A s.heap [o] f0 H1 locs1 → Wd D A s.heap (X ++ [o]) (gl [o] f0 u) H1 locs1 ∧ GI cy X (gl [o] f0 u) ∧ Ob (gl [o] f0 u) a0 7 ∧ ArL (gl [o] f0 u) o cL ∧ ∃ u1 : Nat → va_E, GI cy X u1 ∧ Eh cy f0 u1 ∧ ∀ y ∈ X, gl [o] f0 u y = u1 y := by
    intro u H1 locs1 g1 g2 w1 w2
    have e1 : ∀ x ∈ X, gl [o] f0 u x = u x := fun x hx => gl_out (hoX x hx)
    refine ⟨w1.glue w2 apO, g1.off e1, Ob_of (e1 a0 m_a0) (g2.1.1.1 _ _ o_a0), ?_, u, g1, g2, e1⟩
    obtain ⟨g, hg⟩ := ho
    exact ⟨g, (gl_in hmo).trans hg⟩
  refine lv_aload hx hb dL_onAt_0 (lv_at hl 6 rfl) ?_
  refine q_iconst hx hb dL_onAt_2 ?_
  refine lv_aload_n hx hb dL_onAt_3 rfl (lv_at hl 0 rfl) ?_
  refine lv_iload_n hx hb dL_onAt_4 rfl (lv_at hl 1 rfl) ?_
  refine lv_iload_n hx hb dL_onAt_5 rfl (lv_at hl 2 rfl) ?_
  refine lv_iload_n hx hb dL_onAt_6 rfl (lv_at hl 3 rfl) ?_
  refine lv_iload hx hb dL_onAt_7 (lv_at hl 4 rfl) ?_
  refine lv_iload hx hb dL_onAt_9 (lv_at hl 5 rfl) ?_
  have hF := hwX.free hA
  have hr1 := vx_runV (l := l) (e := e) (R := ({ frames := 7, cells := 1, slots := 6, locals := 175 } : Room)) (below := below) (meth := meth) (cells := 0) (slots := 0) (locs := []) (As := [.int (iI x1), .int (iI x2), .int (iI x3), .int (iI x4), .int (iI x5)]) (rest := [.int (iI 0), .ref o]) (g := F0 m 11 ls [.int (iI x5), .int (iI x4), .int (iI x3), .int (iI x2), .int (iI x1), .ref a0, .int (iI 0), .ref o]) ⟨hx, hb, hml, hown, hts⟩ (c_X9_onAt_h zo l D cy X f0 a0 x1 lx1 ux1 x2 lx2 ux2 x3 lx3 ux3 x4 lx4 ux4 x5 lx5 ux5 m_a0 o_a0 hg hlt zc _) (cwV 5 hts (gT (inV (mr33 _ (List.mem_of_getElem? (i := 21) rfl)) (mr33 _ (List.mem_of_getElem? (i := 22) rfl)) (mr33 _ (List.mem_of_getElem? (i := 23) rfl)) (mr1 _ (List.mem_of_getElem? (i := 2) rfl)) (mr34 _ (List.mem_of_getElem? (i := 0) rfl)))) rfl rfl rfl (by decide +kernel) ⟨Nat.le_of_ble_eq_true rfl, Nat.le_of_ble_eq_true rfl⟩) (Wd.preV zo hA hZ hwX hKq m_a0 o_a0 rfl) rfl rfl hl.1 rfl (lv_room (Nat.le_of_ble_eq_true rfl)) dL_onAt_11 ⟨Nat.le_of_ble_eq_true rfl, Nat.le_of_ble_eq_true rfl⟩
  refine vx_calli (A0 := A) hr1 hwX.2.2 (fun q _ h => hF q h) hF (fun q _ h => hF q h) (fun E ce q9 u t H1 locs1 ht hvm hp hB hz hk hS hcell hv hcl => ?_) (fun r u t H1 locs1 ht hvm hp hB hz hk hS => ?_)
  · obtain ⟨hE, g1, g2, g3⟩ := hB
    obtain ⟨h1, h2, h3⟩ := hp
    rw [ht] at g1
    subst hE
    have w1 : Wd D A s.heap u.1 u.2 H1 locs1 := ⟨g1, g3.weaken (fun k q _ h => hF q.1 h), hS⟩
    obtain ⟨w2, -⟩ := hwO.keep (Fr.of hz hk g3) hS apO
    rw [← h1] at w1
    obtain ⟨e1, e2, e3, e4, e6⟩ := hend u.2 H1 locs1 h2 h3 w1 w2
    refine vx_catch (E := nse) (name := nse) hown [] { startPc := 0, endPc := 16, handlerPc := 19, catchType := 13 } [] htab (fun z h => absurd h List.not_mem_nil) rfl (by decide) (hts _ (List.mem_cons_of_mem _ (mr33 _ (List.mem_of_getElem? (i := 20) rfl)))) (va_Nw.use rfl (zc _ _ _ hZ _ vx9_cast)) hcell hv hcl ?_
    refine lv_astore (lv' := [(7, .ref q9), (0, .ref a0), (1, .int (iI x1)), (2, .int (iI x2)), (3, .int (iI x3)), (4, .int (iI x4)), (5, .int (iI x5)), (6, .ref o)]) hx hb dL_onAt_19 hl (by decide) rfl (fun ls hl => ?_)
    refine q_iconst hx hb dL_onAt_21 ?_
    exact q_ret_i hx hb hr hlocks hK hAe e1 ⟨by decide, by decide⟩ (Nat.le_of_ble_eq_true rfl) (Nat.le_of_ble_eq_true rfl) dL_onAt_22 ⟨rfl, e2, e3, e4, e6⟩
  · obtain ⟨x, rfl, rx, hp⟩ := hp
    obtain ⟨h1, h2, h3, -⟩ := hp
    obtain ⟨g1, g2, g3⟩ := hB
    rw [ht] at g1
    have w1 : Wd D A s.heap u.1 u.2 H1 locs1 := ⟨g1, g3.weaken (fun k q _ h => hF q.1 h), hS⟩
    obtain ⟨w2, -⟩ := hwO.keep (Fr.of hz hk g3) hS apO
    rw [← h1] at w1
    obtain ⟨e1, e2, e3, e4, e6⟩ := hend u.2 H1 locs1 h2 h3 w1 w2
    refine q_i2l hx hb dL_onAt_14 rx ?_
    obtain ⟨g, hgo⟩ := e4
    have hmo2 : o ∈ X ++ [o] := List.mem_append_right _ hmo
    obtain ⟨q0, hq⟩ := e1.at hmo2
    have hq' := hq
    rw [hgo] at hq
    refine va_last hx hb hK e1.1 e1.2.1 e1.2.2 q0 5 hq rfl (by exact iI_in (i := 0) (n := 1) ⟨by decide, by decide⟩ (by decide) (by decide)) dL_onAt_15 (fun H2 locs2 k1 k2 k3 => ?_)
    rw [e1.put hmo2 hq'] at k1 k2
    refine lv_goto (tgt := 23) hx hb dL_onAt_16 (by decide) ?_
    refine q_iconst hx hb dL_onAt_23 ?_
    have e5 : ∀ y ∈ X, va_up (gl [o] f0 u.2) o (.inl (cL, 1, .inr (.inl (vp_updL g (iI 0).toNatClampNeg (lJ x))))) y = gl [o] f0 u.2 y := fun y hy => va_up_ne _ _ (fun z => hoX y hy (by rw [z]; exact hmo))
    exact q_ret_i hx hb hr hlocks hK hAe ⟨k1, k2, k3⟩ ⟨by decide, by decide⟩ (Nat.le_of_ble_eq_true rfl) (Nat.le_of_ble_eq_true rfl) dL_onAt_24 ⟨rfl, e2.off e5, Ob_of (e5 a0 m_a0) e3, ⟨_, va_up_self _ _ _⟩, e6.elim (fun u1 z => ⟨u1, z.1, z.2.1, fun y hy => (e5 y hy).trans (z.2.2 y hy)⟩)⟩
