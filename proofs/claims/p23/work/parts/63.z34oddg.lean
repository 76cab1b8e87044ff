theorem rows_ka {cy : Cy} {M : List Nat} {f g : Nat → va_E} {x sh im : Nat} {rq : Int → Nat} {gg : Int → Int} {m : Int} {cI : ClassId} (hg : GI cy M f) (mx : x ∈ M) (ox : Ob f x 7) (es : fR f x 2 = some sh) (sr : SR f sh rq gg m) (oi : ArR f im cI 2) (e : ∀ y ∈ M, y ≠ im → g y = f y) : ∀ j : Int, 0 ≤ j → j < 12 → KA g (rq j) ∈ M ∧ TA g (rq j) ∈ M := by
  intro j j0 j1
  have mj := rows_in hg mx ox es sr j j0 j1
  have oj := sr.1.2.2.1 j j0 j1
  have k := AO.in hg mj oj
  have w := KA_of (e _ mj (fun z => by rw [z] at oj; exact oj.notR oi))
  rw [w.1, w.2]
  exact k.2
set_option maxHeartbeats 4000000 in
set_option maxRecDepth 100000 in
theorem c_X9_image_o {Z : Zt} (zo : Zok Z) (l : Launch) (D : va_G) (cy : Cy) (L0 : List Nat) (f0 : Nat → va_E) (a0 : Nat) (x1 : Int) (lx1 : -2147483648 ≤ x1) (ux1 : x1 ≤ 2147483647) (m_a0 : a0 ∈ L0) (o_a0 : Ob f0 a0 7) (hg : GI cy L0 f0) (rq : Int → Nat) (g : Int → Int) (mm : Int) (sx : SX f0 a0 rq g mm) (im0 : Nat) (ei : fR f0 a0 3 = some im0) (ro : Int → Nat) (gi : Int → Int) (ni : Int) (ir : 0 ≤ x1 ∧ x1 ≤ 1 → (ni = -1 ∧ aR f0 im0 x1 = none) ∨ (0 ≤ ni ∧ ni ≤ 12 ∧ ∃ s : Nat, aR f0 im0 x1 = some s ∧ SR f0 s ro gi ni ∧ ∀ i j : Int, 0 ≤ i → i < 12 → 0 ≤ j → j < 12 → rq i ≠ ro j)) (adr : 0 ≤ x1 ∧ x1 ≤ 1 → 0 ≤ ni → ADR f0 ro rq) : Ci Z l yX9_image (Cond.code yX9_image cX9_image 2 (some .boolean) :: TB) ({ frames := 4, cells := 39, slots := 581, locals := 103 } : Room) 39 581 D (tq cy) [.ref a0, .int (iI x1)] L0 f0 (fun (r : Int) (L1 : List Nat) (f1 : Nat → va_E) => (∀ x ∈ L0, x ∈ L1) ∧ GI cy L1 f1 ∧ (∀ a ∈ L0, ∀ ci : Nat, Ob f0 a ci → Ob f1 a ci) ∧ ((r = 0 ∧ (x1 < 0 ∨ 1 < x1) ∧ f1 = f0) ∨ (r = 1 ∧ 0 ≤ x1 ∧ x1 ≤ 1 ∧ ∃ (sh s : Nat) (rn : Int → Nat) (f9 : Nat → va_E), fR f0 a0 2 = some sh ∧ ((f9 = f0 ∧ rn = ro ∧ 0 ≤ ni ∧ aR f0 im0 x1 = some s) ∨ (ni = -1 ∧ s ∉ L0 ∧ (∀ i : Int, 0 ≤ i → i < 12 → rn i ∉ L0) ∧ (∀ x ∈ L0, x ≠ im0 → f9 x = f0 x) ∧ (∀ j : Int, 0 ≤ j → j ≠ x1 → aR f9 im0 j = aR f0 im0 j) ∧ ARN L0 f9 rn)) ∧ aR f1 im0 x1 = some s ∧ SR f1 s rn g mm ∧ SR f1 sh rq g mm ∧ Fo (PS s rn) cy f9 f1 ∧ Fr0 f9 f1 ∧ CFO f9 f1 s rn rq mm))) := by
  refine Ci.enter (cc := cX9_image) (n := 2) rfl (plainFor_of_name (by decide)) (Nat.le_of_ble_eq_true rfl) ?_
  intro p e s m below meth c ls A hx hb hr hts hown hlocks hnm hml hK hA hAe hw hZ hl
  have hown : s.vm.findClass RX9 = some m.cls := hown
  have hl : lv_has ls 2 [(0, .ref a0), (1, .int (iI x1))] := hl
  have hN : ZN s := (zo.2.2.2.2 _ _ _ hZ).2
  have hs : ∀ x ∈ L0, x ∈ L0 := fun _ h => h
  have hE : (∀ a ∈ L0, ∀ ci : Nat, Ob f0 a ci → Ob f0 a ci) := fun _ _ _ o => o
  have hold : ∀ x ∈ L0, f0 x = f0 x := fun _ _ => rfl
  have hg0 := hg
  have ma0 := m_a0
  have oa7 := o_a0
  refine lv_iload_n hx hb dX9_image_0 rfl (lv_at hl 1 rfl) ?_
  refine q_if_lt (tgt := 13) hx hb dX9_image_1 (by decide) ⟨lx1, ux1⟩ (fun c1 => ?_) (fun c1 => ?_)
  · refine q_iconst hx hb dX9_image_13 ?_
    exact q_ret_z hx hb hr hlocks hK hAe hw (by omega) (Nat.le_of_ble_eq_true rfl) (Nat.le_of_ble_eq_true rfl) dX9_image_14 (by exact ⟨hs, hg, hE, Or.inl ⟨by omega, by omega, rfl⟩⟩)
  · refine lv_iload_n hx hb dX9_image_4 rfl (lv_at hl 1 rfl) ?_
    refine lv_aload_n hx hb dX9_image_5 rfl (lv_at hl 0 rfl) ?_
    obtain ⟨r_1, er_1, m_r_1, o_r_1⟩ := (show ∃ r, fR f0 a0 3 = some r ∧ r ∈ L0 ∧ ArR f0 r cy.2.2.2.2 2 from hg.2.1 _ m_a0 7 3 o_a0)
    refine q_getr (ci := 7) (C := RX9) (T := TX9) (N := 4) hx hb hts (fun w h => List.mem_cons_of_mem _ (mfX90 w h)) hown hK hw m_a0 o_a0 rfl 3 (by decide) (hts _ (List.mem_cons_of_mem _ (mr1 _ (List.mem_of_getElem? (i := 21) rfl)))) (fun _ h => h) rfl er_1 dX9_image_6 ?_
    have zi : r_1 = im0 := Option.some.inj (er_1.symm.trans ei)
    refine q_alenR hx hb hK hw m_r_1 4 o_r_1 rfl dX9_image_9 ?_
    refine q_icmp_lt (tgt := 15) hx hb dX9_image_10 (by decide) ⟨lx1, ux1⟩ ⟨by decide, by decide⟩ (fun c10 => ?_) (fun c10 => ?_)
    · refine lv_aload_n hx hb dX9_image_15 rfl (lv_at hl 0 rfl) ?_
      refine q_getr (ci := 7) (C := RX9) (T := TX9) (N := 4) hx hb hts (fun w h => List.mem_cons_of_mem _ (mfX90 w h)) hown hK hw m_a0 o_a0 rfl 3 (by decide) (hts _ (List.mem_cons_of_mem _ (mr1 _ (List.mem_of_getElem? (i := 21) rfl)))) (fun _ h => h) rfl er_1 dX9_image_16 ?_
      have zi : r_1 = im0 := Option.some.inj (er_1.symm.trans ei)
      have mim := m_r_1
      have oim := o_r_1
      refine lv_iload_n hx hb dX9_image_19 rfl (lv_at hl 1 rfl) ?_
      rcases hg.2.2.2 _ m_r_1 x1 o_r_1 (by omega) (by omega) with er_3 | ⟨r_3, er_3, m_r_3, o_r_3⟩
      · refine q_aald hx hb hK hw m_r_1 4 o_r_1 rfl ⟨lx1, ux1⟩ (by omega) (by omega) er_3 dX9_image_20 ?_
        show W _ _ _ _ _ _ _ _ _ _ _ _ _ _ _ (F0 m 21 ls (.null :: []))
        have i18 := (ir ⟨by omega, by omega⟩).resolve_right (fun q => by obtain ⟨_, _, s, q1, _⟩ := q; rw [← zi, er_3] at q1; cases q1)
        refine lv_ifnonnullN hx hb dX9_image_21 ?_
        refine lv_aload_n hx hb dX9_image_24 rfl (lv_at hl 0 rfl) ?_
        refine q_getr (ci := 7) (C := RX9) (T := TX9) (N := 4) hx hb hts (fun w h => List.mem_cons_of_mem _ (mfX90 w h)) hown hK hw m_a0 o_a0 rfl 3 (by decide) (hts _ (List.mem_cons_of_mem _ (mr1 _ (List.mem_of_getElem? (i := 21) rfl)))) (fun _ h => h) rfl er_1 dX9_image_25 ?_
        have zi2 : r_1 = im0 := by first | exact Option.some.inj (er_1.symm.trans ei)
        refine lv_iload_n hx hb dX9_image_28 rfl (lv_at hl 1 rfl) ?_
        refine q_new (ci := 5) (C := RX7) (T := TX7) (N := 2) (fs := [.null, .int 0]) hx hb hts (fun w h => List.mem_cons_of_mem _ (mfX70 w h)) tyX7 tyX7_ok hown (hts _ (List.mem_cons_of_mem _ (mr1 _ (List.mem_of_getElem? (i := 17) rfl)))) (hts _ (List.mem_cons_of_mem _ (mr1 _ (List.mem_of_getElem? (i := 18) rfl)))) (hts _ (List.mem_cons_of_mem _ (mr1 _ (List.mem_of_getElem? (i := 19) rfl)))) hK hw hA rfl (by decide) (Nat.le_of_ble_eq_true rfl) (Nat.le_of_ble_eq_true rfl) dX9_image_29 (fun q_4 H n_q_4 hw => ?_)
        obtain ⟨f_5, ef_5⟩ : ∃ g : Nat → va_E, g = va_up f0 q_4 (.inr (5, [.null, .int 0])) := ⟨_, rfl⟩
        rw [← ef_5] at hw
        have hX : Al cy L0 f0 f_5 := by rw [ef_5]; exact Al.push n_q_4
        have hg : GI cy L0 f_5 := by rw [ef_5]; exact hg.push n_q_4
        have hM : ∀ x ∈ L0, x ∈ L0 ++ [q_4] := fun x h => List.mem_append_left _ h
        have hs0 := hs
        have hold : ∀ x ∈ L0, f_5 x = f0 x := fun x h => Eq.trans (by rw [ef_5]; exact va_up_ne _ _ (fun z => n_q_4 (z ▸ hs0 x h))) (hold x h)
        have er_1 : fR f_5 a0 3 = some r_1 := (show fR f_5 a0 3 = fR f0 a0 3 by rw [ef_5]; exact fR_of (va_up_ne _ _ (fun z => n_q_4 (z ▸ m_a0)))).trans er_1
        have hE := fun a m ci o => hX.1 a (hs a m) ci (hE a m ci o)
        have o_a0 := hX.1 _ m_a0 _ o_a0
        have o_r_1 := hX.2.2.1 _ m_r_1 _ _ o_r_1
        have mg_a0 := m_a0
        have m_a0 := hM _ m_a0
        have mg_r_1 := m_r_1
        have m_r_1 := hM _ m_r_1
        have hs : ∀ x ∈ L0, x ∈ L0 ++ [q_4] := fun x h => hM x (hs x h)
        have m_q_4 : q_4 ∈ L0 ++ [q_4] := List.mem_append_right _ (List.mem_singleton.mpr rfl)
        have o_q_4 : Ob f_5 q_4 5 := by rw [ef_5]; exact ⟨_, va_up_self _ _ _, rfl⟩
        refine lv_dup hx hb dX9_image_32 rfl ?_
        refine q_call_v hA hK hw (va_runI (As := []) (rest := [.ref q_4, .int (iI x1), .ref r_1]) ⟨hx, hb, hml, hown, hts⟩ (c_X7_init_o zo l D cy (L0 ++ [q_4]) f_5 q_4 m_q_4 o_q_4 (L0) hM hg n_q_4 _) (cwI 0 hts (gT (inC (mr2 _ (List.mem_of_getElem? (i := 0) rfl)))) rfl rfl rfl (hts _ (List.mem_cons_of_mem _ (mr1 _ (List.mem_of_getElem? (i := 19) rfl)))) (hts _ (List.mem_cons_of_mem _ (mr1 _ (List.mem_of_getElem? (i := 22) rfl)))) (hts _ (List.mem_cons_of_mem _ (mr1 _ (List.mem_of_getElem? (i := 23) rfl)))) rfl (by decide +kernel) ⟨Nat.le_of_ble_eq_true rfl, Nat.le_of_ble_eq_true rfl⟩) (Wd.preS zo hA hZ hw hK) rfl rfl hl.1 rfl (lv_room (Nat.le_of_ble_eq_true rfl)) dX9_image_33 ⟨Nat.le_of_ble_eq_true rfl, Nat.le_of_ble_eq_true rfl⟩) (fun L_8 f_7 H locs ex_6 hw => ?_)
        obtain ⟨⟨M_9, p1, p2, p3, p4, p5, p6, hg, hq, o_q_4⟩, ⟨rn, sfn, fq, ann⟩, z1⟩ := ex_6
        have hold : ∀ x ∈ L0, f_7 x = f0 x := fun x h => (hq x (hs x h) (fun z => n_q_4 (z ▸ hs0 x h))).trans (hold x h)
        have fqn : ∀ i : Int, 0 ≤ i → i < 12 → rn i ∉ L0 := fun i i0 i1 h => fq i i0 i1 (hs _ h)
        have ann : ARN L0 f_7 rn := ⟨ann.1, fun i i0 i1 => ⟨fun h => (ann.2 i i0 i1).1 (hs _ h), fun h => (ann.2 i i0 i1).2 (hs _ h)⟩⟩
        have nq0 : q_4 ∉ L0 := fun h => n_q_4 (hs0 _ h)
        have hg : GI cy L_8 f_7 := hg.same p2 (fun x h => (p6 x h).elim (fun h => (List.mem_append.mp h).elim (fun h => p1 x h) (fun h => by rw [List.mem_singleton.mp h]; exact p4)) id)
        have hE := fun a m ci o => Ob_of (hq a (hs a m) (fun z => n_q_4 (z ▸ hs0 a m))) (hE a m ci o)
        have o_a0 := Ob_of (hq _ m_a0 (fun h => n_q_4 (h ▸ mg_a0))) o_a0
        have o_r_1 := ArR_of (hq _ m_r_1 (fun h => n_q_4 (h ▸ mg_r_1))) o_r_1
        have er_1 : fR f_7 a0 3 = some r_1 := (fR_of (hq _ m_a0 (fun h => n_q_4 (h ▸ mg_a0)))).trans er_1
        have m_a0 := p5 _ m_a0
        have m_q_4 := p5 _ m_q_4
        have m_r_1 := p5 _ m_r_1
        have hs : ∀ x ∈ L0, x ∈ L_8 := fun x h => p5 x (hs x h)
        have mq9 := m_q_4
        have hgo := hg
        refine q_aast hx hb hK hw m_r_1 4 o_r_1 rfl m_q_4 o_q_4 rfl ⟨lx1, ux1⟩ (by omega) (by omega) dX9_image_36 (fun H locs hw => ?_)
        have oo := o_r_1
        have ov := o_q_4
        obtain ⟨f_10, ef_10⟩ : ∃ g : Nat → va_E, g = rU f_7 r_1 x1 (some q_4) := ⟨_, rfl⟩
        have hX : Sh f_7 f_10 := by rw [ef_10]; exact Sh_rU oo
        have hg : GI cy L_8 f_10 := by rw [ef_10]; exact hg.putS oo (by omega) m_q_4 ov
        rw [← ef_10] at hw
        have hE := fun a m ci o => hX.1 a ci (hE a m ci o)
        have o_a0 := hX.1 _ _ o_a0
        have o_r_1 := hX.2.2 _ _ _ oo
        have o_q_4 := hX.1 _ _ ov
        have eq_4 : aR f_10 r_1 x1 = some q_4 := by rw [ef_10]; exact aR_rU_self oo
        have er_1 : fR f_10 a0 3 = some r_1 := by rw [ef_10]; exact (fR_rU oo).trans er_1
        have hola : ∀ x ∈ L0, x ≠ im0 → f_10 x = f0 x := fun x h n => Eq.trans (by rw [ef_10]; exact rU_ne (fun z => n (z.trans zi))) (hold x h)
        have haj : ∀ j : Int, 0 ≤ j → j ≠ x1 → aR f_10 im0 j = aR f0 im0 j := fun j j0 n => by rw [← zi]; exact Eq.trans (by rw [ef_10]; exact aR_rU_nj oo (by omega) j0 n) (aR_of (hold _ mim))
        have sfx := sfn.rU2 hgo mq9 oo ef_10
        obtain ⟨rx, erx⟩ : ∃ z : Int → Nat, z = rn := ⟨_, rfl⟩
        rw [← erx] at sfx
        have ann := ann.rU oo ef_10
        refine lv_aload_n hx hb dX9_image_37 rfl (lv_at hl 0 rfl) ?_
        refine q_getr (ci := 7) (C := RX9) (T := TX9) (N := 4) hx hb hts (fun w h => List.mem_cons_of_mem _ (mfX90 w h)) hown hK hw m_a0 o_a0 rfl 3 (by decide) (hts _ (List.mem_cons_of_mem _ (mr1 _ (List.mem_of_getElem? (i := 21) rfl)))) (fun _ h => h) rfl er_1 dX9_image_38 ?_
        refine lv_iload_n hx hb dX9_image_41 rfl (lv_at hl 1 rfl) ?_
        refine q_aald hx hb hK hw m_r_1 4 o_r_1 rfl ⟨lx1, ux1⟩ (by omega) (by omega) eq_4 dX9_image_42 ?_
        show W _ _ _ _ _ _ _ _ _ _ _ _ _ _ _ (F0 m 43 ls (.ref q_4 :: []))
        have e42 := eq_4
        refine lv_aload_n hx hb dX9_image_43 rfl (lv_at hl 0 rfl) ?_
        obtain ⟨r_12, er_12, m_r_12, o_r_12⟩ := (show ∃ r, fR f_10 a0 2 = some r ∧ r ∈ L_8 ∧ Ob f_10 r 5 from hg.2.1 _ m_a0 7 2 o_a0)
        refine q_getr (ci := 7) (C := RX9) (T := TX9) (N := 4) hx hb hts (fun w h => List.mem_cons_of_mem _ (mfX90 w h)) hown hK hw m_a0 o_a0 rfl 2 (by decide) (hts _ (List.mem_cons_of_mem _ (mr1 _ (List.mem_of_getElem? (i := 20) rfl)))) (fun _ h => h) rfl er_12 dX9_image_44 ?_
        have s44 : fR f0 a0 2 = some r_12 := by first | exact er_12 | exact (fR_of (hola a0 ma0 (fun z => by rw [z, ← zi] at oa7; exact absurd oim oa7.notR))).symm.trans er_12
        have srx : SR f_10 r_12 rq g mm := by first | exact (sx.at s44).1 | exact (sx.at s44).1.off hg0 ma0 oa7 s44 (zi ▸ oim) (sx.at s44).2.2.2 hola
        have djx : ∀ i j : Int, 0 ≤ i → i < 12 → 0 ≤ j → j < 12 → rx i ≠ rq j := by first | (rw [erx]; exact fun i j i0 i1 j0 j1 e => dj j i j0 j1 i0 i1 e.symm) | (rw [erx]; exact fun i j i0 i1 j0 j1 e => fqn i i0 i1 (by rw [e]; exact rows_in hg0 ma0 oa7 s44 (sx.at s44).1 j j0 j1))
        have nex := sf_ne sfx srx.1 djx
        have sm := (sx.at s44).2.2
        have adrx : ADR f_10 rx rq := by first | (rw [erx]; exact adr ⟨by omega, by omega⟩ n0) | (rw [erx]; exact ADR.new ann (rows_ka hg0 ma0 oa7 s44 (sx.at s44).1 (zi ▸ oim) hola)) | fail "none"
        obtain ⟨f9, ef9⟩ : ∃ z : Nat → va_E, z = f_10 := ⟨_, rfl⟩
        refine q_call_v hA hK hw (va_runV (As := [.ref r_12]) (rest := []) ⟨hx, hb, hml, hown, hts⟩ (c_X7_copyFrom_o zo l D cy L_8 f_10 q_4 r_12 m_q_4 o_q_4 m_r_12 o_r_12 hg rx rq g mm sfx srx (by omega) (by omega) djx nex adrx _) (cwV 1 hts (gT (inV (mr44 _ (List.mem_of_getElem? (i := 18) rfl)) (mr44 _ (List.mem_of_getElem? (i := 19) rfl)) (mr44 _ (List.mem_of_getElem? (i := 20) rfl)) (mr1 _ (List.mem_of_getElem? (i := 19) rfl)) (mr44 _ (List.mem_of_getElem? (i := 21) rfl)))) rfl rfl rfl (by decide +kernel) ⟨Nat.le_of_ble_eq_true rfl, Nat.le_of_ble_eq_true rfl⟩) (Wd.preV zo hA hZ hw hK m_q_4 o_q_4 rfl) rfl rfl hl.1 rfl (lv_room (Nat.le_of_ble_eq_true rfl)) dX9_image_47 ⟨Nat.le_of_ble_eq_true rfl, Nat.le_of_ble_eq_true rfl⟩) (fun L1 f_14 H locs ex_13 hw => ?_)
        obtain ⟨rfl, hg, hX, ex_13⟩ := ex_13
        have hE := fun a m ci o => hX.1.1 a ci (hE a m ci o)
        have o_a0 := hX.1.1 _ _ o_a0
        have e47 := ex_13
        rw [← ef9] at e47
        refine q_iconst hx hb dX9_image_50 ?_
        exact q_ret_z hx hb hr hlocks hK hAe hw (by omega) (Nat.le_of_ble_eq_true rfl) (Nat.le_of_ble_eq_true rfl) dX9_image_51 (by exact ⟨hs, hg, hE, Or.inr ⟨by omega, by omega, by omega, _, _, rx, f9, s44, by first | exact Or.inl ⟨ef9, erx, n0, by rw [← zi]; exact e42⟩ | exact Or.inr ⟨i18.1, nq0, by rw [erx]; exact fqn, by rw [ef9]; exact hola, by rw [ef9]; exact haj, by rw [erx, ef9]; exact ann⟩, (e47.1.2.2.2 im0 x1).trans (by rw [ef9, ← zi]; exact e42), e47.1.1, e47.1.2.1, e47.1.2.2.1, e47.1.2.2.2, e47.2⟩⟩)
      · refine q_aald hx hb hK hw m_r_1 4 o_r_1 rfl ⟨lx1, ux1⟩ (by omega) (by omega) er_3 dX9_image_20 ?_
        show W _ _ _ _ _ _ _ _ _ _ _ _ _ _ _ (F0 m 21 ls (.ref r_3 :: []))
        have i18 := (ir ⟨by omega, by omega⟩).resolve_left (fun q => by have q1 := q.2; rw [← zi, er_3] at q1; cases q1)
        obtain ⟨n0, n1, s9, es, sr, dj⟩ := i18
        have zs : r_3 = s9 := Option.some.inj (er_3.symm.trans (by rw [zi]; exact es))
        have sfx : SF f0 r_3 ro := by rw [zs]; exact sr.1
        obtain ⟨rx, erx⟩ : ∃ z : Int → Nat, z = ro := ⟨_, rfl⟩
        rw [← erx] at sfx
        refine lv_ifnonnull (tgt := 37) hx hb dX9_image_21 (by decide) ?_
        refine lv_aload_n hx hb dX9_image_37 rfl (lv_at hl 0 rfl) ?_
        refine q_getr (ci := 7) (C := RX9) (T := TX9) (N := 4) hx hb hts (fun w h => List.mem_cons_of_mem _ (mfX90 w h)) hown hK hw m_a0 o_a0 rfl 3 (by decide) (hts _ (List.mem_cons_of_mem _ (mr1 _ (List.mem_of_getElem? (i := 21) rfl)))) (fun _ h => h) rfl er_1 dX9_image_38 ?_
        refine lv_iload_n hx hb dX9_image_41 rfl (lv_at hl 1 rfl) ?_
        refine q_aald hx hb hK hw m_r_1 4 o_r_1 rfl ⟨lx1, ux1⟩ (by omega) (by omega) er_3 dX9_image_42 ?_
        show W _ _ _ _ _ _ _ _ _ _ _ _ _ _ _ (F0 m 43 ls (.ref r_3 :: []))
        have e42 := er_3
        refine lv_aload_n hx hb dX9_image_43 rfl (lv_at hl 0 rfl) ?_
        obtain ⟨r_16, er_16, m_r_16, o_r_16⟩ := (show ∃ r, fR f0 a0 2 = some r ∧ r ∈ L0 ∧ Ob f0 r 5 from hg.2.1 _ m_a0 7 2 o_a0)
        refine q_getr (ci := 7) (C := RX9) (T := TX9) (N := 4) hx hb hts (fun w h => List.mem_cons_of_mem _ (mfX90 w h)) hown hK hw m_a0 o_a0 rfl 2 (by decide) (hts _ (List.mem_cons_of_mem _ (mr1 _ (List.mem_of_getElem? (i := 20) rfl)))) (fun _ h => h) rfl er_16 dX9_image_44 ?_
        have s44 : fR f0 a0 2 = some r_16 := by first | exact er_16 | exact (fR_of (hola a0 ma0 (fun z => by rw [z, ← zi] at oa7; exact absurd oim oa7.notR))).symm.trans er_16
        have srx : SR f0 r_16 rq g mm := by first | exact (sx.at s44).1 | exact (sx.at s44).1.off hg0 ma0 oa7 s44 (zi ▸ oim) (sx.at s44).2.2.2 hola
        have djx : ∀ i j : Int, 0 ≤ i → i < 12 → 0 ≤ j → j < 12 → rx i ≠ rq j := by first | (rw [erx]; exact fun i j i0 i1 j0 j1 e => dj j i j0 j1 i0 i1 e.symm) | (rw [erx]; exact fun i j i0 i1 j0 j1 e => fqn i i0 i1 (by rw [e]; exact rows_in hg0 ma0 oa7 s44 (sx.at s44).1 j j0 j1))
        have nex := sf_ne sfx srx.1 djx
        have sm := (sx.at s44).2.2
        have adrx : ADR f0 rx rq := by first | (rw [erx]; exact adr ⟨by omega, by omega⟩ n0) | (rw [erx]; exact ADR.new ann (rows_ka hg0 ma0 oa7 s44 (sx.at s44).1 (zi ▸ oim) hola)) | fail "none"
        obtain ⟨f9, ef9⟩ : ∃ z : Nat → va_E, z = f0 := ⟨_, rfl⟩
        refine q_call_v hA hK hw (va_runV (As := [.ref r_16]) (rest := []) ⟨hx, hb, hml, hown, hts⟩ (c_X7_copyFrom_o zo l D cy L0 f0 r_3 r_16 m_r_3 o_r_3 m_r_16 o_r_16 hg rx rq g mm sfx srx (by omega) (by omega) djx nex adrx _) (cwV 1 hts (gT (inV (mr44 _ (List.mem_of_getElem? (i := 18) rfl)) (mr44 _ (List.mem_of_getElem? (i := 19) rfl)) (mr44 _ (List.mem_of_getElem? (i := 20) rfl)) (mr1 _ (List.mem_of_getElem? (i := 19) rfl)) (mr44 _ (List.mem_of_getElem? (i := 21) rfl)))) rfl rfl rfl (by decide +kernel) ⟨Nat.le_of_ble_eq_true rfl, Nat.le_of_ble_eq_true rfl⟩) (Wd.preV zo hA hZ hw hK m_r_3 o_r_3 rfl) rfl rfl hl.1 rfl (lv_room (Nat.le_of_ble_eq_true rfl)) dX9_image_47 ⟨Nat.le_of_ble_eq_true rfl, Nat.le_of_ble_eq_true rfl⟩) (fun L1 f_18 H locs ex_17 hw => ?_)
        obtain ⟨rfl, hg, hX, ex_17⟩ := ex_17
        have hE := fun a m ci o => hX.1.1 a ci (hE a m ci o)
        have o_a0 := hX.1.1 _ _ o_a0
        have e47 := ex_17
        rw [← ef9] at e47
        refine q_iconst hx hb dX9_image_50 ?_
        exact q_ret_z hx hb hr hlocks hK hAe hw (by omega) (Nat.le_of_ble_eq_true rfl) (Nat.le_of_ble_eq_true rfl) dX9_image_51 (by exact ⟨hs, hg, hE, Or.inr ⟨by omega, by omega, by omega, _, _, rx, f9, s44, by first | exact Or.inl ⟨ef9, erx, n0, by rw [← zi]; exact e42⟩ | exact Or.inr ⟨i18.1, nq0, by rw [erx]; exact fqn, by rw [ef9]; exact hola, by rw [ef9]; exact haj, by rw [erx, ef9]; exact ann⟩, (e47.1.2.2.2 im0 x1).trans (by rw [ef9, ← zi]; exact e42), e47.1.1, e47.1.2.1, e47.1.2.2.1, e47.1.2.2.2, e47.2⟩⟩)
    · refine q_iconst hx hb dX9_image_13 ?_
      exact q_ret_z hx hb hr hlocks hK hAe hw (by omega) (Nat.le_of_ble_eq_true rfl) (Nat.le_of_ble_eq_true rfl) dX9_image_14 (by exact ⟨hs, hg, hE, Or.inl ⟨by omega, by omega, rfl⟩⟩)
