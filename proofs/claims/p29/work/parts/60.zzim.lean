/-! ===== which images there are ===== -/
def imV (f : Nat → va_E) (a : Nat) (j : Int) : Option Nat := (fR f a 3).bind (fun r => aR f r j)
theorem imV_r {f : Nat → va_E} {a r : Nat} {j : Int} (h : fR f a 3 = some r) : imV f a j = aR f r j := by unfold imV; rw [h]; rfl
theorem imV_of {f g : Nat → va_E} {a r : Nat} {j : Int} (er : fR f a 3 = some r) (h1 : g a = f a) (h2 : g r = f r) : imV g a j = imV f a j := (imV_r ((fR_of h1).trans er)).trans ((aR_of h2).trans (imV_r er).symm)
theorem imV_ey {cy : Cy} {L : List Nat} {f g : Nat → va_E} {x : Nat} {j : Int} (h : Ey cy f g) (hg : GI cy L f) (m : x ∈ L) (o : Ob f x 7) : imV g x j = imV f x j := by
  obtain ⟨r, er, mr, o2⟩ := (show ∃ r, fR f x 3 = some r ∧ r ∈ L ∧ ArR f r cy.2.2.2.2 2 from hg.2.1 _ m 7 3 o)
  exact (imV_r ((h.2.1 x 3 o).trans er)).trans ((h.2.2 r j o2).trans (imV_r er).symm)
theorem imV_al {cy : Cy} {L : List Nat} {f g : Nat → va_E} {x : Nat} {j : Int} (h : Al cy L f g) (hg : GI cy L f) (m : x ∈ L) (o : Ob f x 7) : imV g x j = imV f x j := by
  obtain ⟨r, er, mr, o2⟩ := (show ∃ r, fR f x 3 = some r ∧ r ∈ L ∧ ArR f r cy.2.2.2.2 2 from hg.2.1 _ m 7 3 o)
  exact (imV_r ((h.2.2.2.1 x m 3 o).trans er)).trans ((h.2.2.2.2 r mr j o2).trans (imV_r er).symm)
theorem imV_ex {cy : Cy} {f g : Nat → va_E} {a r : Nat} {j : Int} (h : Ex cy f g) (o : Ob f a 7) (er : fR f a 3 = some r) (o2 : ArR f r cy.2.2.2.2 2) : imV g a j = imV f a j :=
  (imV_r ((h.ey.2.1 a 3 o).trans er)).trans ((h.2.2 r j o2).trans (imV_r er).symm)
abbrev IMc (f g : Nat → va_E) (a : Nat) (i r : Int) : Prop := (r = 1 ∧ 0 ≤ i ∧ i ≤ 1 ∨ r = 0 ∧ (i < 0 ∨ 1 < i)) ∧ (∀ j : Int, 0 ≤ j → j ≠ i → imV g a j = imV f a j) ∧ (r = 1 → imV g a i ≠ none)
abbrev IMm (f g : Nat → va_E) (ad : Nat → Nat) (i r : Int) : Prop := (r = 1 ∧ 0 ≤ i ∧ i ≤ 1 ∨ r = 0 ∧ (i < 0 ∨ 1 < i)) ∧ (∀ j : Int, 0 ≤ j → j ≠ i → aI g (ad 7) j = aI f (ad 7) j) ∧ (r = 1 → 0 ≤ aI g (ad 7) i)
abbrev BKc (f : Nat → va_E) (a : Nat) (i r : Int) : Prop := (r = 1 ∧ 0 ≤ i ∧ i ≤ 1 ∧ imV f a i ≠ none) ∨ (r = 0 ∧ (i < 0 ∨ 1 < i ∨ imV f a i = none))
abbrev BKm (f : Nat → va_E) (ad : Nat → Nat) (i r : Int) : Prop := (r = 1 ∧ 0 ≤ i ∧ i ≤ 1 ∧ 0 ≤ aI f (ad 7) i) ∨ (r = 0 ∧ (i < 0 ∨ 1 < i ∨ aI f (ad 7) i < 0))
def TI (fx : Nat → va_E) (x : Nat) (fm : Nat → va_E) (ad : Nat → Nat) : Prop := ∀ j : Int, 0 ≤ j → j ≤ 1 → (imV fx x j = none ↔ aI fm (ad 7) j < 0)
theorem TI.cls {fx gx fm : Nat → va_E} {x : Nat} {ad : Nat → Nat} (h : TI fx x fm ad) (c : ∀ j : Int, imV gx x j = imV fx x j) : TI gx x fm ad := fun j h0 h1 => by rw [c j]; exact h j h0 h1
theorem TI.mod {fx fm gm : Nat → va_E} {x : Nat} {ad : Nat → Nat} (h : TI fx x fm ad) (c : ∀ j : Int, aI gm (ad 7) j = aI fm (ad 7) j) : TI fx x gm ad := fun j h0 h1 => by rw [c j]; exact h j h0 h1
theorem TI.img {fx gx fm gm : Nat → va_E} {x : Nat} {ad : Nat → Nat} {i i' r r' : Int} (h : TI fx x fm ad) (c : IMc fx gx x i r) (d : IMm fm gm ad i' r') (ei : i = i') : TI gx x gm ad := by
  subst ei
  intro j h0 h1
  by_cases e : j = i
  · subst e
    have c3 := c.2.2 (by have := c.1; omega)
    have d3 := d.2.2 (by have := d.1; omega)
    exact ⟨fun z => absurd z c3, fun z => by omega⟩
  · rw [c.2.1 j h0 e, d.2.1 j h0 e]
    exact h j h0 h1
theorem TI.back {fx fm : Nat → va_E} {x : Nat} {ad : Nat → Nat} {i i' r r' : Int} (h : TI fx x fm ad) (c : BKc fx x i r) (d : BKm fm ad i' r') (ei : i = i') : r = r' := by
  subst ei
  rcases c with ⟨c1, c2, c3, c4⟩ | ⟨c1, c2⟩ <;> rcases d with ⟨d1, d2, d3, d4⟩ | ⟨d1, d2⟩
  · omega
  · rcases d2 with d2 | d2 | d2
    · omega
    · omega
    · exact absurd ((h i c2 c3).mpr d2) c4
  · rcases c2 with c2 | c2 | c2
    · omega
    · omega
    · have := (h i d2 d3).mp c2
      omega
  · omega
set_option maxHeartbeats 4000000 in
set_option maxRecDepth 100000 in
theorem c_X9_image_i {Z : Zt} (zo : Zok Z) (l : Launch) (D : va_G) (cy : Cy) (L0 : List Nat) (f0 : Nat → va_E) (a0 : Nat) (x1 : Int) (lx1 : -2147483648 ≤ x1) (ux1 : x1 ≤ 2147483647) (m_a0 : a0 ∈ L0) (o_a0 : Ob f0 a0 7) (hg : GI cy L0 f0) : Ci Z l yX9_image (Cond.code yX9_image cX9_image 2 (some .boolean) :: TB) ({ frames := 4, cells := 39, slots := 581, locals := 103 } : Room) 39 581 D (tq cy) [.ref a0, .int (iI x1)] L0 f0 (fun (r : Int) (L1 : List Nat) (f1 : Nat → va_E) => (∀ x ∈ L0, x ∈ L1) ∧ GI cy L1 f1 ∧ (∀ a ∈ L0, ∀ ci : Nat, Ob f0 a ci → Ob f1 a ci) ∧ IMc f0 f1 a0 x1 r) := by
  refine Ci.enter (cc := cX9_image) (n := 2) rfl (plainFor_of_name (by decide)) (Nat.le_of_ble_eq_true rfl) ?_
  intro p e s m below meth c ls A hx hb hr hts hown hlocks hnm hml hK hA hAe hw hZ hl
  have hown : s.vm.findClass RX9 = some m.cls := hown
  have hl : lv_has ls 2 [(0, .ref a0), (1, .int (iI x1))] := hl
  have hN : ZN s := (zo.2.2.2.2 _ _ _ hZ).2
  have hs : ∀ x ∈ L0, x ∈ L0 := fun _ h => h
  have hE : (∀ a ∈ L0, ∀ ci : Nat, Ob f0 a ci → Ob f0 a ci) := fun _ _ _ o => o
  have hk1 : ∀ j : Int, imV f0 a0 j = imV f0 a0 j := fun _ => rfl
  refine lv_iload_n hx hb dX9_image_0 rfl (lv_at hl 1 rfl) ?_
  refine q_if_lt (tgt := 13) hx hb dX9_image_1 (by decide) ⟨lx1, ux1⟩ (fun c1 => ?_) (fun c1 => ?_)
  · refine q_iconst hx hb dX9_image_13 ?_
    exact q_ret_z hx hb hr hlocks hK hAe hw (by omega) (Nat.le_of_ble_eq_true rfl) (Nat.le_of_ble_eq_true rfl) dX9_image_14 (by exact ⟨hs, hg, hE, Or.inr ⟨by omega, by omega⟩, fun j _ _ => hk1 j, fun h => absurd h (by decide)⟩)
  · refine lv_iload_n hx hb dX9_image_4 rfl (lv_at hl 1 rfl) ?_
    refine lv_aload_n hx hb dX9_image_5 rfl (lv_at hl 0 rfl) ?_
    obtain ⟨r_1, er_1, m_r_1, o_r_1⟩ := (show ∃ r, fR f0 a0 3 = some r ∧ r ∈ L0 ∧ ArR f0 r cy.2.2.2.2 2 from hg.2.1 _ m_a0 7 3 o_a0)
    refine q_getr (ci := 7) (C := RX9) (T := TX9) (N := 4) hx hb hts (fun w h => List.mem_cons_of_mem _ (mfX90 w h)) hown hK hw m_a0 o_a0 rfl 3 (by decide) (hts _ (List.mem_cons_of_mem _ (mr1 _ (List.mem_of_getElem? (i := 21) rfl)))) (fun _ h => h) rfl er_1 dX9_image_6 ?_
    refine q_alenR hx hb hK hw m_r_1 4 o_r_1 rfl dX9_image_9 ?_
    refine q_icmp_lt (tgt := 15) hx hb dX9_image_10 (by decide) ⟨lx1, ux1⟩ ⟨by decide, by decide⟩ (fun c10 => ?_) (fun c10 => ?_)
    · refine lv_aload_n hx hb dX9_image_15 rfl (lv_at hl 0 rfl) ?_
      refine q_getr (ci := 7) (C := RX9) (T := TX9) (N := 4) hx hb hts (fun w h => List.mem_cons_of_mem _ (mfX90 w h)) hown hK hw m_a0 o_a0 rfl 3 (by decide) (hts _ (List.mem_cons_of_mem _ (mr1 _ (List.mem_of_getElem? (i := 21) rfl)))) (fun _ h => h) rfl er_1 dX9_image_16 ?_
      refine lv_iload_n hx hb dX9_image_19 rfl (lv_at hl 1 rfl) ?_
      rcases hg.2.2.2 _ m_r_1 x1 o_r_1 (by omega) (by omega) with er_3 | ⟨r_3, er_3, m_r_3, o_r_3⟩
      · refine q_aald hx hb hK hw m_r_1 4 o_r_1 rfl ⟨lx1, ux1⟩ (by omega) (by omega) er_3 dX9_image_20 ?_
        show W _ _ _ _ _ _ _ _ _ _ _ _ _ _ _ (F0 m 21 ls (.null :: []))
        refine lv_ifnonnullN hx hb dX9_image_21 ?_
        refine lv_aload_n hx hb dX9_image_24 rfl (lv_at hl 0 rfl) ?_
        refine q_getr (ci := 7) (C := RX9) (T := TX9) (N := 4) hx hb hts (fun w h => List.mem_cons_of_mem _ (mfX90 w h)) hown hK hw m_a0 o_a0 rfl 3 (by decide) (hts _ (List.mem_cons_of_mem _ (mr1 _ (List.mem_of_getElem? (i := 21) rfl)))) (fun _ h => h) rfl er_1 dX9_image_25 ?_
        refine lv_iload_n hx hb dX9_image_28 rfl (lv_at hl 1 rfl) ?_
        refine q_new (ci := 5) (C := RX7) (T := TX7) (N := 2) (fs := [.null, .int 0]) hx hb hts (fun w h => List.mem_cons_of_mem _ (mfX70 w h)) tyX7 tyX7_ok hown (hts _ (List.mem_cons_of_mem _ (mr1 _ (List.mem_of_getElem? (i := 17) rfl)))) (hts _ (List.mem_cons_of_mem _ (mr1 _ (List.mem_of_getElem? (i := 18) rfl)))) (hts _ (List.mem_cons_of_mem _ (mr1 _ (List.mem_of_getElem? (i := 19) rfl)))) hK hw hA rfl (by decide) (Nat.le_of_ble_eq_true rfl) (Nat.le_of_ble_eq_true rfl) dX9_image_29 (fun q_4 H n_q_4 hw => ?_)
        obtain ⟨f_5, ef_5⟩ : ∃ g : Nat → va_E, g = va_up f0 q_4 (.inr (5, [.null, .int 0])) := ⟨_, rfl⟩
        rw [← ef_5] at hw
        have hX : Al cy L0 f0 f_5 := by rw [ef_5]; exact Al.push n_q_4
        have hg : GI cy L0 f_5 := by rw [ef_5]; exact hg.push n_q_4
        have hM : ∀ x ∈ L0, x ∈ L0 ++ [q_4] := fun x h => List.mem_append_left _ h
        have hs0 := hs
        have er0 := er_1
        have er_1 : fR f_5 a0 3 = some r_1 := (show fR f_5 a0 3 = fR f0 a0 3 by rw [ef_5]; exact fR_of (va_up_ne _ _ (fun z => n_q_4 (z ▸ m_a0)))).trans er_1
        have hk1 : ∀ j : Int, imV f_5 a0 j = imV f0 a0 j := fun j => (imV_of (g := f_5) er0 (show f_5 a0 = f0 a0 by rw [ef_5]; exact va_up_ne _ _ (fun (z : a0 = q_4) => n_q_4 (z ▸ m_a0))) (show f_5 r_1 = f0 r_1 by rw [ef_5]; exact va_up_ne _ _ (fun (z : r_1 = q_4) => n_q_4 (z ▸ m_r_1)))).trans (hk1 j)
        have hE := fun a m ci o => hX.1 a (hs a m) ci (hE a m ci o)
        have o_a0 := hX.1 _ m_a0 _ o_a0
        have o_r_1 := hX.2.2.1 _ m_r_1 _ _ o_r_1
        have mg_a0 := m_a0
        have m_a0 := hM _ m_a0
        have mg_r_1 := m_r_1
        have m_r_1 := hM _ m_r_1
        have hs : ∀ x ∈ L0, x ∈ L0 ++ [q_4] := fun x h => hM x (hs x h)
        have m_q_4 : q_4 ∈ L0 ++ [q_4] := List.mem_append_right _ (List.mem_singleton.mpr rfl)
        have o_q_4 : Ob f_5 q_4 5 := by rw [ef_5]; exact ⟨_, va_up_self _ _ _, rfl⟩
        refine lv_dup hx hb dX9_image_32 rfl ?_
        refine q_call_v hA hK hw (va_runI (As := []) (rest := [.ref q_4, .int (iI x1), .ref r_1]) ⟨hx, hb, hml, hown, hts⟩ (c_X7_init zo l D cy (L0 ++ [q_4]) f_5 q_4 m_q_4 o_q_4 (L0) hM hg n_q_4 _) (cwI 0 hts (gT (inC (mr2 _ (List.mem_of_getElem? (i := 0) rfl)))) rfl rfl rfl (hts _ (List.mem_cons_of_mem _ (mr1 _ (List.mem_of_getElem? (i := 19) rfl)))) (hts _ (List.mem_cons_of_mem _ (mr1 _ (List.mem_of_getElem? (i := 22) rfl)))) (hts _ (List.mem_cons_of_mem _ (mr1 _ (List.mem_of_getElem? (i := 23) rfl)))) rfl (by decide +kernel) ⟨Nat.le_of_ble_eq_true rfl, Nat.le_of_ble_eq_true rfl⟩) (Wd.preS zo hA hZ hw hK) rfl rfl hl.1 rfl (lv_room (Nat.le_of_ble_eq_true rfl)) dX9_image_33 ⟨Nat.le_of_ble_eq_true rfl, Nat.le_of_ble_eq_true rfl⟩) (fun L_8 f_7 H locs ex_6 hw => ?_)
        obtain ⟨M_9, p1, p2, p3, p4, p5, p6, hg, hq, o_q_4⟩ := ex_6
        have hg : GI cy L_8 f_7 := hg.same p2 (fun x h => (p6 x h).elim (fun h => (List.mem_append.mp h).elim (fun h => p1 x h) (fun h => by rw [List.mem_singleton.mp h]; exact p4)) id)
        have hk1 : ∀ j : Int, imV f_7 a0 j = imV f0 a0 j := fun j => (imV_of (g := f_7) er_1 (hq a0 m_a0 (fun (z : a0 = q_4) => n_q_4 (z ▸ mg_a0))) (hq r_1 m_r_1 (fun (z : r_1 = q_4) => n_q_4 (z ▸ mg_r_1)))).trans (hk1 j)
        have hE := fun a m ci o => Ob_of (hq a (hs a m) (fun z => n_q_4 (z ▸ hs0 a m))) (hE a m ci o)
        have o_a0 := Ob_of (hq _ m_a0 (fun h => n_q_4 (h ▸ mg_a0))) o_a0
        have o_r_1 := ArR_of (hq _ m_r_1 (fun h => n_q_4 (h ▸ mg_r_1))) o_r_1
        have er_1 : fR f_7 a0 3 = some r_1 := (fR_of (hq _ m_a0 (fun h => n_q_4 (h ▸ mg_a0)))).trans er_1
        have m_a0 := p5 _ m_a0
        have m_q_4 := p5 _ m_q_4
        have m_r_1 := p5 _ m_r_1
        have hs : ∀ x ∈ L0, x ∈ L_8 := fun x h => p5 x (hs x h)
        refine q_aast hx hb hK hw m_r_1 4 o_r_1 rfl m_q_4 o_q_4 rfl ⟨lx1, ux1⟩ (by omega) (by omega) dX9_image_36 (fun H locs hw => ?_)
        have oo := o_r_1
        have ov := o_q_4
        obtain ⟨f_10, ef_10⟩ : ∃ g : Nat → va_E, g = rU f_7 r_1 x1 (some q_4) := ⟨_, rfl⟩
        have hX : Sh f_7 f_10 := by rw [ef_10]; exact Sh_rU oo
        have hg : GI cy L_8 f_10 := by rw [ef_10]; exact hg.putS oo (by omega) m_q_4 ov
        rw [← ef_10] at hw
        have hk1 : ∀ j : Int, 0 ≤ j → j ≠ x1 → imV f_10 a0 j = imV f0 a0 j := fun j j0 j1 => Eq.trans ((imV_r (show fR f_10 a0 3 = some r_1 by rw [ef_10]; exact (fR_rU oo).trans er_1)).trans ((show aR f_10 r_1 j = aR f_7 r_1 j by rw [ef_10]; exact aR_rU_nj oo (by omega) j0 j1).trans (imV_r er_1).symm)) (hk1 j)
        have hE := fun a m ci o => hX.1 a ci (hE a m ci o)
        have o_a0 := hX.1 _ _ o_a0
        have o_r_1 := hX.2.2 _ _ _ oo
        have o_q_4 := hX.1 _ _ ov
        have eq_4 : aR f_10 r_1 x1 = some q_4 := by rw [ef_10]; exact aR_rU_self oo
        have er_1 : fR f_10 a0 3 = some r_1 := by rw [ef_10]; exact (fR_rU oo).trans er_1
        refine lv_aload_n hx hb dX9_image_37 rfl (lv_at hl 0 rfl) ?_
        refine q_getr (ci := 7) (C := RX9) (T := TX9) (N := 4) hx hb hts (fun w h => List.mem_cons_of_mem _ (mfX90 w h)) hown hK hw m_a0 o_a0 rfl 3 (by decide) (hts _ (List.mem_cons_of_mem _ (mr1 _ (List.mem_of_getElem? (i := 21) rfl)))) (fun _ h => h) rfl er_1 dX9_image_38 ?_
        refine lv_iload_n hx hb dX9_image_41 rfl (lv_at hl 1 rfl) ?_
        refine q_aald hx hb hK hw m_r_1 4 o_r_1 rfl ⟨lx1, ux1⟩ (by omega) (by omega) eq_4 dX9_image_42 ?_
        show W _ _ _ _ _ _ _ _ _ _ _ _ _ _ _ (F0 m 43 ls (.ref q_4 :: []))
        refine lv_aload_n hx hb dX9_image_43 rfl (lv_at hl 0 rfl) ?_
        obtain ⟨r_12, er_12, m_r_12, o_r_12⟩ := (show ∃ r, fR f_10 a0 2 = some r ∧ r ∈ L_8 ∧ Ob f_10 r 5 from hg.2.1 _ m_a0 7 2 o_a0)
        refine q_getr (ci := 7) (C := RX9) (T := TX9) (N := 4) hx hb hts (fun w h => List.mem_cons_of_mem _ (mfX90 w h)) hown hK hw m_a0 o_a0 rfl 2 (by decide) (hts _ (List.mem_cons_of_mem _ (mr1 _ (List.mem_of_getElem? (i := 20) rfl)))) (fun _ h => h) rfl er_12 dX9_image_44 ?_
        refine q_call_v hA hK hw (va_runV (As := [.ref r_12]) (rest := []) ⟨hx, hb, hml, hown, hts⟩ (c_X7_copyFrom zo l D cy L_8 f_10 q_4 r_12 m_q_4 o_q_4 m_r_12 o_r_12 hg _) (cwV 1 hts (gT (inV (mr44 _ (List.mem_of_getElem? (i := 18) rfl)) (mr44 _ (List.mem_of_getElem? (i := 19) rfl)) (mr44 _ (List.mem_of_getElem? (i := 20) rfl)) (mr1 _ (List.mem_of_getElem? (i := 19) rfl)) (mr44 _ (List.mem_of_getElem? (i := 21) rfl)))) rfl rfl rfl (by decide +kernel) ⟨Nat.le_of_ble_eq_true rfl, Nat.le_of_ble_eq_true rfl⟩) (Wd.preV zo hA hZ hw hK m_q_4 o_q_4 rfl) rfl rfl hl.1 rfl (lv_room (Nat.le_of_ble_eq_true rfl)) dX9_image_47 ⟨Nat.le_of_ble_eq_true rfl, Nat.le_of_ble_eq_true rfl⟩) (fun L1 f_14 H locs ex_13 hw => ?_)
        obtain ⟨rfl, hg, hX, ex_13⟩ := ex_13
        have hk3 : imV f_14 a0 x1 ≠ none := by rw [imV_ex hX o_a0 er_1 o_r_1, imV_r er_1, eq_4]; exact Option.some_ne_none _
        have hk1 : ∀ j : Int, 0 ≤ j → j ≠ x1 → imV f_14 a0 j = imV f0 a0 j := fun j j0 j1 => (imV_ex hX o_a0 er_1 o_r_1).trans (hk1 j j0 j1)
        have hE := fun a m ci o => hX.1.1 a ci (hE a m ci o)
        have o_a0 := hX.1.1 _ _ o_a0
        refine q_iconst hx hb dX9_image_50 ?_
        exact q_ret_z hx hb hr hlocks hK hAe hw (by omega) (Nat.le_of_ble_eq_true rfl) (Nat.le_of_ble_eq_true rfl) dX9_image_51 (by exact ⟨hs, hg, hE, Or.inl ⟨by omega, by omega, by omega⟩, hk1, fun _ => hk3⟩)
      · refine q_aald hx hb hK hw m_r_1 4 o_r_1 rfl ⟨lx1, ux1⟩ (by omega) (by omega) er_3 dX9_image_20 ?_
        show W _ _ _ _ _ _ _ _ _ _ _ _ _ _ _ (F0 m 21 ls (.ref r_3 :: []))
        refine lv_ifnonnull (tgt := 37) hx hb dX9_image_21 (by decide) ?_
        refine lv_aload_n hx hb dX9_image_37 rfl (lv_at hl 0 rfl) ?_
        refine q_getr (ci := 7) (C := RX9) (T := TX9) (N := 4) hx hb hts (fun w h => List.mem_cons_of_mem _ (mfX90 w h)) hown hK hw m_a0 o_a0 rfl 3 (by decide) (hts _ (List.mem_cons_of_mem _ (mr1 _ (List.mem_of_getElem? (i := 21) rfl)))) (fun _ h => h) rfl er_1 dX9_image_38 ?_
        refine lv_iload_n hx hb dX9_image_41 rfl (lv_at hl 1 rfl) ?_
        refine q_aald hx hb hK hw m_r_1 4 o_r_1 rfl ⟨lx1, ux1⟩ (by omega) (by omega) er_3 dX9_image_42 ?_
        show W _ _ _ _ _ _ _ _ _ _ _ _ _ _ _ (F0 m 43 ls (.ref r_3 :: []))
        refine lv_aload_n hx hb dX9_image_43 rfl (lv_at hl 0 rfl) ?_
        obtain ⟨r_16, er_16, m_r_16, o_r_16⟩ := (show ∃ r, fR f0 a0 2 = some r ∧ r ∈ L0 ∧ Ob f0 r 5 from hg.2.1 _ m_a0 7 2 o_a0)
        refine q_getr (ci := 7) (C := RX9) (T := TX9) (N := 4) hx hb hts (fun w h => List.mem_cons_of_mem _ (mfX90 w h)) hown hK hw m_a0 o_a0 rfl 2 (by decide) (hts _ (List.mem_cons_of_mem _ (mr1 _ (List.mem_of_getElem? (i := 20) rfl)))) (fun _ h => h) rfl er_16 dX9_image_44 ?_
        refine q_call_v hA hK hw (va_runV (As := [.ref r_16]) (rest := []) ⟨hx, hb, hml, hown, hts⟩ (c_X7_copyFrom zo l D cy L0 f0 r_3 r_16 m_r_3 o_r_3 m_r_16 o_r_16 hg _) (cwV 1 hts (gT (inV (mr44 _ (List.mem_of_getElem? (i := 18) rfl)) (mr44 _ (List.mem_of_getElem? (i := 19) rfl)) (mr44 _ (List.mem_of_getElem? (i := 20) rfl)) (mr1 _ (List.mem_of_getElem? (i := 19) rfl)) (mr44 _ (List.mem_of_getElem? (i := 21) rfl)))) rfl rfl rfl (by decide +kernel) ⟨Nat.le_of_ble_eq_true rfl, Nat.le_of_ble_eq_true rfl⟩) (Wd.preV zo hA hZ hw hK m_r_3 o_r_3 rfl) rfl rfl hl.1 rfl (lv_room (Nat.le_of_ble_eq_true rfl)) dX9_image_47 ⟨Nat.le_of_ble_eq_true rfl, Nat.le_of_ble_eq_true rfl⟩) (fun L1 f_18 H locs ex_17 hw => ?_)
        obtain ⟨rfl, hg, hX, ex_17⟩ := ex_17
        have hk3 : imV f_18 a0 x1 ≠ none := by rw [imV_ex hX o_a0 er_1 o_r_1, imV_r er_1, er_3]; exact Option.some_ne_none _
        have hk1 : ∀ j : Int, 0 ≤ j → j ≠ x1 → imV f_18 a0 j = imV f0 a0 j := fun j j0 j1 => (imV_ex hX o_a0 er_1 o_r_1).trans (hk1 j)
        have hE := fun a m ci o => hX.1.1 a ci (hE a m ci o)
        have o_a0 := hX.1.1 _ _ o_a0
        refine q_iconst hx hb dX9_image_50 ?_
        exact q_ret_z hx hb hr hlocks hK hAe hw (by omega) (Nat.le_of_ble_eq_true rfl) (Nat.le_of_ble_eq_true rfl) dX9_image_51 (by exact ⟨hs, hg, hE, Or.inl ⟨by omega, by omega, by omega⟩, hk1, fun _ => hk3⟩)
    · refine q_iconst hx hb dX9_image_13 ?_
      exact q_ret_z hx hb hr hlocks hK hAe hw (by omega) (Nat.le_of_ble_eq_true rfl) (Nat.le_of_ble_eq_true rfl) dX9_image_14 (by exact ⟨hs, hg, hE, Or.inr ⟨by omega, by omega⟩, fun j _ _ => hk1 j, fun h => absurd h (by decide)⟩)
set_option maxHeartbeats 4000000 in
set_option maxRecDepth 100000 in
theorem c_X9_init_i {Z : Zt} (zo : Zok Z) (l : Launch) (D : va_G) (cy : Cy) (L0 : List Nat) (f0 : Nat → va_E) (a0 : Nat) (m_a0 : a0 ∈ L0) (o_a0 : Ob f0 a0 7) (M : List Nat) (hM : ∀ x ∈ M, x ∈ L0) (hg : GI cy M f0) (hn0 : a0 ∉ M) : Cv Z l yX9_init (Cond.code yX9_init cX9_init 1 none :: TB) ({ frames := 4, cells := 41, slots := 751, locals := 86 } : Room) 41 751 D (tq cy) [.ref a0] L0 f0 (fun (L1 : List Nat) (f1 : Nat → va_E) => PA cy M L0 f0 a0 7 L1 f1 ∧ ∀ j : Int, imV f1 a0 j = none) := by
  refine Cv.enter (cc := cX9_init) (n := 1) rfl (plainFor_of_name (by decide)) (Nat.le_of_ble_eq_true rfl) ?_
  intro p e s m below meth c ls A hx hb hr hts hown hlocks hnm hml hK hA hAe hw hZ hl
  have hown : s.vm.findClass RX9 = some m.cls := hown
  have hl : lv_has ls 1 [(0, .ref a0)] := hl
  have hN : ZN s := (zo.2.2.2.2 _ _ _ hZ).2
  have ha0 := m_a0
  have hML := hM
  have hM0 : ∀ x ∈ M, x ∈ M := fun _ h => h
  have hMc : ∀ x ∈ M, x ∈ M ∨ x ∉ L0 := fun _ h => Or.inl h
  have hs : ∀ x ∈ L0, x ∈ L0 := fun _ h => h
  have hc : ∀ x ∈ L0, x ∈ L0 ∨ x ∈ M ∨ x ∈ ([] : List Nat) := fun _ h => Or.inl h
  have hO : ∀ x ∈ L0, x ≠ a0 → f0 x = f0 x := fun _ _ _ => rfl
  refine lv_aload_n hx hb dX9_init_0 rfl (lv_at hl 0 rfl) ?_
  refine W.objInit hx hb hown (hts _ (List.mem_cons_of_mem _ (mr1 _ (List.mem_of_getElem? (i := 11) rfl)))) (hts _ (List.mem_cons_of_mem _ (mr1 _ (List.mem_of_getElem? (i := 12) rfl)))) (hts _ (List.mem_cons_of_mem _ (mr1 _ (List.mem_of_getElem? (i := 13) rfl)))) rfl (by rw [hml]; exact hl.1) rfl dX9_init_1 (Nat.le_of_ble_eq_true rfl) (Nat.le_of_ble_eq_true rfl) ?_
  refine W.eq (g2 := F0 m 4 ls []) rfl ?_
  refine lv_aload_n hx hb dX9_init_4 rfl (lv_at hl 0 rfl) ?_
  refine q_sipush hx hb dX9_init_5 rfl ?_
  refine q_newI (n := 168) (cA := cy.1) hx hb (hts _ (List.mem_cons_of_mem _ (mr1 _ (List.mem_of_getElem? (i := 14) rfl)))) rfl rfl 0 rfl hK hw hA (by decide) (by decide) (by show 0 + 1 ≤ 41; omega) (by show 0 + 168 ≤ 751; omega) dX9_init_8 (fun q_1 H n_q_1 hw => ?_)
  obtain ⟨f_2, ef_2⟩ : ∃ g : Nat → va_E, g = va_up f0 q_1 (.inl (cy.1, 168, .inl (fun _ => 0))) := ⟨_, rfl⟩
  rw [← ef_2] at hw
  have hq : ∀ x ∈ L0, f_2 x = f0 x := fun x h => by rw [ef_2]; exact va_up_ne _ _ (fun z => n_q_1 (z ▸ h))
  have o_a0 := Ob_of (hq _ m_a0) o_a0
  have hO : ∀ x ∈ L0, x ≠ a0 → f_2 x = f0 x := fun x m h => (hq x (hs x m)).trans (hO x m h)
  have hg := hg.off (fun x h => hq x (hML x h))
  have ne_a0 : a0 ≠ q_1 := fun z => n_q_1 (z ▸ m_a0)
  have m_a0 : a0 ∈ L0 ++ [q_1] := List.mem_append_left _ m_a0
  have m_q_1 : q_1 ∈ L0 ++ [q_1] := List.mem_append_right _ (List.mem_singleton.mpr rfl)
  have nq_q_1 : q_1 ∉ L0 := fun z => n_q_1 (hs _ z)
  have nm_q_1 : q_1 ∉ M := fun z => n_q_1 (hML _ z)
  have hs : ∀ x ∈ L0, x ∈ L0 ++ [q_1] := fun x h => List.mem_append_left _ (hs x h)
  have o_q_1 : ArI f_2 q_1 cy.1 168 := by rw [ef_2]; exact ⟨_, va_up_self _ _ _⟩
  have hg := hg.addI o_q_1
  have mg_q_1 : q_1 ∈ M ++ [q_1] := List.mem_append_right _ (List.mem_singleton.mpr rfl)
  have hML : ∀ x ∈ M ++ [q_1], x ∈ L0 ++ [q_1] := fun x h => (List.mem_append.mp h).elim (fun h => List.mem_append_left _ (hML x h)) (fun h => by rw [List.mem_singleton.mp h]; exact m_q_1)
  have hM0 : ∀ x ∈ M, x ∈ M ++ [q_1] := fun x h => List.mem_append_left _ (hM0 x h)
  have hMc : ∀ x ∈ M ++ [q_1], x ∈ M ∨ x ∉ L0 := fun x h => (List.mem_append.mp h).elim (fun h => hMc x h) (fun h => by rw [List.mem_singleton.mp h]; exact Or.inr nq_q_1)
  have hc : ∀ x ∈ L0 ++ [q_1], x ∈ L0 ∨ x ∈ (M ++ [q_1]) ∨ x ∈ ([] : List Nat) := fun x h => (List.mem_append.mp h).elim (fun h => (hc x h).elim Or.inl (fun h => h.elim (fun h => Or.inr (Or.inl (List.mem_append_left _ h))) (fun h => Or.inr (Or.inr h)))) (fun h => Or.inr (Or.inl (List.mem_append_right _ h)))
  refine q_putFr (ci := 7) (C := RX9) (T := TX9) (N := 4) hx hb hts (fun w h => List.mem_cons_of_mem _ (mfX90 w h)) hown hK hw m_a0 o_a0 rfl 0 (by decide) (hts _ (List.mem_cons_of_mem _ (mr1 _ (List.mem_of_getElem? (i := 15) rfl)))) (fun _ h => h) tyX9 tyX9_ok nmX9 rfl hnm rfl (ty := tyX9 0) (by decide +kernel) rfl rfl rfl dX9_init_10 (fun H locs hw => ?_)
  obtain ⟨f_3, ef_3⟩ : ∃ g : Nat → va_E, g = pU f_2 a0 0 (.ref q_1) := ⟨_, rfl⟩
  rw [← ef_3] at hw
  have oo := o_a0
  have hq : ∀ x : Nat, x ≠ a0 → f_3 x = f_2 x := fun x h => by rw [ef_3]; exact pU_ne h
  have hX : Sh f_2 f_3 := by rw [ef_3]; exact Sh_pU oo rfl rfl
  have o_a0 := hX.1 _ _ o_a0
  have o_q_1 := hX.2.1 _ _ _ o_q_1
  have hg := hg.off (fun x h => hq x (fun z => (hMc x h).elim (fun h => hn0 (z ▸ h)) (fun h => h (z ▸ ha0))))
  have hO : ∀ x ∈ L0, x ≠ a0 → f_3 x = f0 x := fun x m h => (hq x h).trans (hO x m h)
  have w_0 : fR f_3 a0 0 = some q_1 := by rw [ef_3]; exact fR_pU_self oo rfl
  refine lv_aload_n hx hb dX9_init_13 rfl (lv_at hl 0 rfl) ?_
  refine q_iconst hx hb dX9_init_14 ?_
  refine q_puti (ci := 7) (C := RX9) (T := TX9) (N := 4) hx hb hts (fun w h => List.mem_cons_of_mem _ (mfX90 w h)) hown hK hw m_a0 o_a0 rfl 1 (by decide) (hts _ (List.mem_cons_of_mem _ (mr1 _ (List.mem_of_getElem? (i := 16) rfl)))) (fun _ h => h) tyX9 tyX9_ok nmX9 rfl (ty := .int) (by decide +kernel) rfl rfl dX9_init_15 (fun H locs hw => ?_)
  obtain ⟨f_4, ef_4⟩ : ∃ g : Nat → va_E, g = pU f_3 a0 1 (.int (iI 0)) := ⟨_, rfl⟩
  rw [← ef_4] at hw
  have oo := o_a0
  have hq : ∀ x : Nat, x ≠ a0 → f_4 x = f_3 x := fun x h => by rw [ef_4]; exact pU_ne h
  have hX : Sh f_3 f_4 := by rw [ef_4]; exact Sh_pU oo rfl rfl
  have o_a0 := hX.1 _ _ o_a0
  have o_q_1 := hX.2.1 _ _ _ o_q_1
  have hg := hg.off (fun x h => hq x (fun z => (hMc x h).elim (fun h => hn0 (z ▸ h)) (fun h => h (z ▸ ha0))))
  have hO : ∀ x ∈ L0, x ≠ a0 → f_4 x = f0 x := fun x m h => (hq x h).trans (hO x m h)
  have w_0 : fR f_4 a0 0 = some q_1 := by rw [ef_4, fR_pU (Or.inr (by decide))]; exact w_0
  have i_1 : fI f_4 a0 1 = 0 := by rw [ef_4]; exact fI_pU_self oo rfl ⟨by decide, by decide⟩
  refine lv_aload_n hx hb dX9_init_18 rfl (lv_at hl 0 rfl) ?_
  refine q_new (ci := 5) (C := RX7) (T := TX7) (N := 2) (fs := [.null, .int 0]) hx hb hts (fun w h => List.mem_cons_of_mem _ (mfX70 w h)) tyX7 tyX7_ok hown (hts _ (List.mem_cons_of_mem _ (mr1 _ (List.mem_of_getElem? (i := 17) rfl)))) (hts _ (List.mem_cons_of_mem _ (mr1 _ (List.mem_of_getElem? (i := 18) rfl)))) (hts _ (List.mem_cons_of_mem _ (mr1 _ (List.mem_of_getElem? (i := 19) rfl)))) hK hw hA rfl (by decide) (by show 0 + 1 + 1 ≤ 41; omega) (by show 0 + 168 + 2 ≤ 751; omega) dX9_init_19 (fun q_5 H n_q_5 hw => ?_)
  obtain ⟨f_6, ef_6⟩ : ∃ g : Nat → va_E, g = va_up f_4 q_5 (.inr (5, [.null, .int 0])) := ⟨_, rfl⟩
  rw [← ef_6] at hw
  have hq : ∀ x ∈ (L0 ++ [q_1]), f_6 x = f_4 x := fun x h => by rw [ef_6]; exact va_up_ne _ _ (fun z => n_q_5 (z ▸ h))
  have o_a0 := Ob_of (hq _ m_a0) o_a0
  have o_q_1 := ArI_of (hq _ m_q_1) o_q_1
  have w_0 := (fR_of (k := 0) (hq _ m_a0)).trans w_0
  have i_1 := (fI_of (k := 1) (hq _ m_a0)).trans i_1
  have hO : ∀ x ∈ L0, x ≠ a0 → f_6 x = f0 x := fun x m h => (hq x (hs x m)).trans (hO x m h)
  have hg := hg.off (fun x h => hq x (hML x h))
  have ne_a0 : a0 ≠ q_5 := fun z => n_q_5 (z ▸ m_a0)
  have m_a0 : a0 ∈ (L0 ++ [q_1]) ++ [q_5] := List.mem_append_left _ m_a0
  have ne_q_1 : q_1 ≠ q_5 := fun z => n_q_5 (z ▸ m_q_1)
  have m_q_1 : q_1 ∈ (L0 ++ [q_1]) ++ [q_5] := List.mem_append_left _ m_q_1
  have m_q_5 : q_5 ∈ (L0 ++ [q_1]) ++ [q_5] := List.mem_append_right _ (List.mem_singleton.mpr rfl)
  have nq_q_5 : q_5 ∉ L0 := fun z => n_q_5 (hs _ z)
  have nm_q_5 : q_5 ∉ (M ++ [q_1]) := fun z => n_q_5 (hML _ z)
  have hs : ∀ x ∈ L0, x ∈ (L0 ++ [q_1]) ++ [q_5] := fun x h => List.mem_append_left _ (hs x h)
  have o_q_5 : Ob f_6 q_5 5 := by rw [ef_6]; exact ⟨_, va_up_self _ _ _, rfl⟩
  have hML : ∀ x ∈ (M ++ [q_1]), x ∈ (L0 ++ [q_1]) ++ [q_5] := fun x h => List.mem_append_left _ (hML x h)
  have hc : ∀ x ∈ (L0 ++ [q_1]) ++ [q_5], x ∈ L0 ∨ x ∈ (M ++ [q_1]) ∨ x ∈ ([q_5]) := fun x h => (List.mem_append.mp h).elim (fun h => (hc x h).elim Or.inl (fun h => h.elim (fun h => Or.inr (Or.inl h)) (fun h => Or.inr (Or.inr (List.mem_append_left [q_5] h))))) (fun h => Or.inr (Or.inr (List.mem_append_right [] h)))
  refine lv_dup hx hb dX9_init_22 rfl ?_
  refine q_call_v hA hK hw (va_runI (As := []) (rest := [.ref q_5, .ref a0]) ⟨hx, hb, hml, hown, hts⟩ (c_X7_init zo l D cy ((L0 ++ [q_1]) ++ [q_5]) f_6 q_5 m_q_5 o_q_5 (M ++ [q_1]) hML hg nm_q_5 _) (cwI 0 hts (gT (inC (mr2 _ (List.mem_of_getElem? (i := 0) rfl)))) rfl rfl rfl (hts _ (List.mem_cons_of_mem _ (mr1 _ (List.mem_of_getElem? (i := 19) rfl)))) (hts _ (List.mem_cons_of_mem _ (mr1 _ (List.mem_of_getElem? (i := 22) rfl)))) (hts _ (List.mem_cons_of_mem _ (mr1 _ (List.mem_of_getElem? (i := 23) rfl)))) rfl (by decide +kernel) ⟨Nat.le_of_ble_eq_true rfl, Nat.le_of_ble_eq_true rfl⟩) (Wd.preS zo hA hZ hw hK) rfl rfl hl.1 rfl (lv_room (Nat.le_of_ble_eq_true rfl)) dX9_init_23 ⟨(by show 0 + 1 + 1 + 38 ≤ 41; omega), (by show 0 + 168 + 2 + 579 ≤ 751; omega)⟩) (fun L_9 f_8 H locs ex_7 hw => ?_)
  obtain ⟨M_10, p1, p2, p3, mg_q_5, p5, p6, hg, hq, o_q_5⟩ := ex_7
  have o_a0 := Ob_of (hq _ m_a0 ne_a0) o_a0
  have o_q_1 := ArI_of (hq _ m_q_1 ne_q_1) o_q_1
  have w_0 := (fR_of (k := 0) (hq _ m_a0 ne_a0)).trans w_0
  have i_1 := (fI_of (k := 1) (hq _ m_a0 ne_a0)).trans i_1
  have hO : ∀ x ∈ L0, x ≠ a0 → f_8 x = f0 x := fun x m h => (hq x (hs x m) (fun z => nq_q_5 (z ▸ m))).trans (hO x m h)
  have mg_q_1 := p1 _ mg_q_1
  have hMc : ∀ x ∈ M_10, x ∈ M ∨ x ∉ L0 := fun x h => (p3 x h).elim (fun h => hMc x h) (fun h => h.elim (fun h => Or.inr (by rw [h]; exact nq_q_5)) (fun h => Or.inr (fun z => h (hs x z))))
  have m_a0 := p5 _ m_a0
  have m_q_1 := p5 _ m_q_1
  have m_q_5 := p5 _ m_q_5
  have hML := p2
  have hM0 : ∀ x ∈ M, x ∈ M_10 := fun x h => p1 x (hM0 x h)
  have hs : ∀ x ∈ L0, x ∈ L_9 := fun x h => p5 x (hs x h)
  have hc : ∀ x ∈ L_9, x ∈ L0 ∨ x ∈ M_10 ∨ x ∈ ([] : List Nat) := fun x h => by
    rcases p6 x h with h | h
    · rcases hc x h with h | h | h
      · exact Or.inl h
      · exact Or.inr (Or.inl (p1 _ h))
      · rcases List.mem_append.mp (show x ∈ ([] : List Nat) ++ [q_5] from h) with h | h
        · exact Or.inr (Or.inr h)
        · exact Or.inr (Or.inl (by rw [List.mem_singleton.mp h]; exact mg_q_5))
    · exact Or.inr (Or.inl h)
  refine q_putFr (ci := 7) (C := RX9) (T := TX9) (N := 4) hx hb hts (fun w h => List.mem_cons_of_mem _ (mfX90 w h)) hown hK hw m_a0 o_a0 rfl 2 (by decide) (hts _ (List.mem_cons_of_mem _ (mr1 _ (List.mem_of_getElem? (i := 20) rfl)))) (fun _ h => h) tyX9 tyX9_ok nmX9 rfl hnm rfl (ty := tyX9 2) (by decide +kernel) rfl rfl rfl dX9_init_26 (fun H locs hw => ?_)
  obtain ⟨f_11, ef_11⟩ : ∃ g : Nat → va_E, g = pU f_8 a0 2 (.ref q_5) := ⟨_, rfl⟩
  rw [← ef_11] at hw
  have oo := o_a0
  have hq : ∀ x : Nat, x ≠ a0 → f_11 x = f_8 x := fun x h => by rw [ef_11]; exact pU_ne h
  have hX : Sh f_8 f_11 := by rw [ef_11]; exact Sh_pU oo rfl rfl
  have o_a0 := hX.1 _ _ o_a0
  have o_q_1 := hX.2.1 _ _ _ o_q_1
  have o_q_5 := hX.1 _ _ o_q_5
  have hg := hg.off (fun x h => hq x (fun z => (hMc x h).elim (fun h => hn0 (z ▸ h)) (fun h => h (z ▸ ha0))))
  have hO : ∀ x ∈ L0, x ≠ a0 → f_11 x = f0 x := fun x m h => (hq x h).trans (hO x m h)
  have w_0 : fR f_11 a0 0 = some q_1 := by rw [ef_11, fR_pU (Or.inr (by decide))]; exact w_0
  have i_1 := (show fI f_11 a0 1 = fI f_8 a0 1 by rw [ef_11]; exact fI_pU (Or.inr (by decide))).trans i_1
  have w_2 : fR f_11 a0 2 = some q_5 := by rw [ef_11]; exact fR_pU_self oo rfl
  refine lv_aload_n hx hb dX9_init_29 rfl (lv_at hl 0 rfl) ?_
  refine q_iconst hx hb dX9_init_30 ?_
  refine q_newR (n := 2) (cA := cy.2.2.2.2) (C := RX7) hx hb hown (hts _ (List.mem_cons_of_mem _ (mr1 _ (List.mem_of_getElem? (i := 17) rfl)))) (hN _ (List.mem_of_getElem? (i := 20) rfl)) 4 rfl hK hw hA (by decide) (by decide) (by show 0 + 1 + 1 + 38 + 1 ≤ 41; omega) (by show 0 + 168 + 2 + 579 + 2 ≤ 751; omega) dX9_init_31 (fun q_12 H n_q_12 hw => ?_)
  obtain ⟨f_13, ef_13⟩ : ∃ g : Nat → va_E, g = va_up f_11 q_12 (.inl (cy.2.2.2.2, 2, .inr (.inr (.inr (.inr (fun _ => none)))))) := ⟨_, rfl⟩
  rw [← ef_13] at hw
  have hq : ∀ x ∈ L_9, f_13 x = f_11 x := fun x h => by rw [ef_13]; exact va_up_ne _ _ (fun z => n_q_12 (z ▸ h))
  have o_a0 := Ob_of (hq _ m_a0) o_a0
  have o_q_1 := ArI_of (hq _ m_q_1) o_q_1
  have o_q_5 := Ob_of (hq _ m_q_5) o_q_5
  have w_0 := (fR_of (k := 0) (hq _ m_a0)).trans w_0
  have w_2 := (fR_of (k := 2) (hq _ m_a0)).trans w_2
  have i_1 := (fI_of (k := 1) (hq _ m_a0)).trans i_1
  have hO : ∀ x ∈ L0, x ≠ a0 → f_13 x = f0 x := fun x m h => (hq x (hs x m)).trans (hO x m h)
  have hg := hg.off (fun x h => hq x (hML x h))
  have ne_a0 : a0 ≠ q_12 := fun z => n_q_12 (z ▸ m_a0)
  have m_a0 : a0 ∈ L_9 ++ [q_12] := List.mem_append_left _ m_a0
  have ne_q_1 : q_1 ≠ q_12 := fun z => n_q_12 (z ▸ m_q_1)
  have m_q_1 : q_1 ∈ L_9 ++ [q_12] := List.mem_append_left _ m_q_1
  have ne_q_5 : q_5 ≠ q_12 := fun z => n_q_12 (z ▸ m_q_5)
  have m_q_5 : q_5 ∈ L_9 ++ [q_12] := List.mem_append_left _ m_q_5
  have m_q_12 : q_12 ∈ L_9 ++ [q_12] := List.mem_append_right _ (List.mem_singleton.mpr rfl)
  have nq_q_12 : q_12 ∉ L0 := fun z => n_q_12 (hs _ z)
  have nm_q_12 : q_12 ∉ M_10 := fun z => n_q_12 (hML _ z)
  have hs : ∀ x ∈ L0, x ∈ L_9 ++ [q_12] := fun x h => List.mem_append_left _ (hs x h)
  have o_q_12 : ArR f_13 q_12 cy.2.2.2.2 2 := by rw [ef_13]; exact ⟨_, va_up_self _ _ _⟩
  have hML : ∀ x ∈ M_10, x ∈ L_9 ++ [q_12] := fun x h => List.mem_append_left _ (hML x h)
  have hc : ∀ x ∈ L_9 ++ [q_12], x ∈ L0 ∨ x ∈ M_10 ∨ x ∈ ([q_12]) := fun x h => (List.mem_append.mp h).elim (fun h => (hc x h).elim Or.inl (fun h => h.elim (fun h => Or.inr (Or.inl h)) (fun h => Or.inr (Or.inr (List.mem_append_left [q_12] h))))) (fun h => Or.inr (Or.inr (List.mem_append_right [] h)))
  have hg := hg.add (q := q_12) (fun _ _ o' => absurd o_q_12 o'.notR) (fun _ _ o' => absurd o_q_12 o'.notR) (fun j o' h0 h1 => absurd (o_q_12.uniq o').2 (by decide)) (fun j o' h0 h1 => Or.inl (by rw [ef_13]; exact aR_none _ _ _ _ _))
  have mg_q_1 : q_1 ∈ M_10 ++ [q_12] := List.mem_append_left _ mg_q_1
  have mg_q_5 : q_5 ∈ M_10 ++ [q_12] := List.mem_append_left _ mg_q_5
  have mg_q_12 : q_12 ∈ M_10 ++ [q_12] := List.mem_append_right _ (List.mem_singleton.mpr rfl)
  have hML : ∀ x ∈ M_10 ++ [q_12], x ∈ (L_9 ++ [q_12]) := fun x h => (List.mem_append.mp h).elim (fun h => hML x h) (fun h => by rw [List.mem_singleton.mp h]; exact m_q_12)
  have hM0 : ∀ x ∈ M, x ∈ M_10 ++ [q_12] := fun x h => List.mem_append_left _ (hM0 x h)
  have hMc : ∀ x ∈ M_10 ++ [q_12], x ∈ M ∨ x ∉ L0 := fun x h => (List.mem_append.mp h).elim (fun h => hMc x h) (fun h => by rw [List.mem_singleton.mp h]; exact Or.inr nq_q_12)
  have hc : ∀ x ∈ (L_9 ++ [q_12]), x ∈ L0 ∨ x ∈ (M_10 ++ [q_12]) ∨ x ∈ ([] : List Nat) := fun x h => by
    rcases hc x h with h | h | h
    · exact Or.inl h
    · exact Or.inr (Or.inl (List.mem_append_left _ h))
    · rcases List.mem_append.mp (show x ∈ ([] : List Nat) ++ [q_12] from h) with h | h
      · exact Or.inr (Or.inr h)
      · exact Or.inr (Or.inl (List.mem_append_right _ h))
  refine q_putFr (ci := 7) (C := RX9) (T := TX9) (N := 4) hx hb hts (fun w h => List.mem_cons_of_mem _ (mfX90 w h)) hown hK hw m_a0 o_a0 rfl 3 (by decide) (hts _ (List.mem_cons_of_mem _ (mr1 _ (List.mem_of_getElem? (i := 21) rfl)))) (fun _ h => h) tyX9 tyX9_ok nmX9 rfl hnm rfl (ty := tyX9 3) (by decide +kernel) rfl rfl rfl dX9_init_34 (fun H locs hw => ?_)
  obtain ⟨f_14, ef_14⟩ : ∃ g : Nat → va_E, g = pU f_13 a0 3 (.ref q_12) := ⟨_, rfl⟩
  rw [← ef_14] at hw
  have oo := o_a0
  have hq : ∀ x : Nat, x ≠ a0 → f_14 x = f_13 x := fun x h => by rw [ef_14]; exact pU_ne h
  have hX : Sh f_13 f_14 := by rw [ef_14]; exact Sh_pU oo rfl rfl
  have o_a0 := hX.1 _ _ o_a0
  have o_q_1 := hX.2.1 _ _ _ o_q_1
  have o_q_5 := hX.1 _ _ o_q_5
  have o_q_12 := hX.2.2 _ _ _ o_q_12
  have hg := hg.off (fun x h => hq x (fun z => (hMc x h).elim (fun h => hn0 (z ▸ h)) (fun h => h (z ▸ ha0))))
  have hO : ∀ x ∈ L0, x ≠ a0 → f_14 x = f0 x := fun x m h => (hq x h).trans (hO x m h)
  have w_0 : fR f_14 a0 0 = some q_1 := by rw [ef_14, fR_pU (Or.inr (by decide))]; exact w_0
  have w_2 : fR f_14 a0 2 = some q_5 := by rw [ef_14, fR_pU (Or.inr (by decide))]; exact w_2
  have i_1 := (show fI f_14 a0 1 = fI f_13 a0 1 by rw [ef_14]; exact fI_pU (Or.inr (by decide))).trans i_1
  have w_3 : fR f_14 a0 3 = some q_12 := by rw [ef_14]; exact fR_pU_self oo rfl
  have q_0 : fR f_14 a0 0 = some q_1 ∧ q_1 ∈ (M_10 ++ [q_12]) ++ [a0] ∧ _ := ⟨w_0, List.mem_append_left _ mg_q_1, o_q_1⟩
  have q_2 : fR f_14 a0 2 = some q_5 ∧ q_5 ∈ (M_10 ++ [q_12]) ++ [a0] ∧ _ := ⟨w_2, List.mem_append_left _ mg_q_5, o_q_5⟩
  have q_3 : fR f_14 a0 3 = some q_12 ∧ q_12 ∈ (M_10 ++ [q_12]) ++ [a0] ∧ _ := ⟨w_3, List.mem_append_left _ mg_q_12, o_q_12⟩
  have hg := hg.addOb o_a0 (fcond_7 (by rw [i_1]; decide)) (rcond_7 q_0 q_2 q_3)
  have hk9 : ∀ j : Int, imV f_14 a0 j = none := fun j => by rw [imV_r w_3, ef_14, aR_pU oo, ef_13]; exact aR_none _ _ _ _ _
  exact q_ret_v hx hb hr hlocks hK hAe hw (by show 0 + 1 + 1 + 38 + 1 ≤ 41; omega) (by show 0 + 168 + 2 + 579 + 2 ≤ 751; omega) dX9_init_37 ⟨⟨(M_10 ++ [q_12]) ++ [a0], fun x h => List.mem_append_left _ (hM0 x h), fun x h => (List.mem_append.mp h).elim (fun h => hML x h) (fun h => by rw [List.mem_singleton.mp h]; exact m_a0), fun x h => (List.mem_append.mp h).elim (fun h => (hMc x h).elim Or.inl (fun h => Or.inr (Or.inr h))) (fun h => Or.inr (Or.inl (List.mem_singleton.mp h))), List.mem_append_right _ (List.mem_singleton.mpr rfl), hs, fun x h => (hc x h).elim Or.inl (fun h => h.elim (fun h => Or.inr (List.mem_append_left _ h)) (fun h => absurd h List.not_mem_nil)), hg, hO, o_a0⟩, hk9⟩
set_option maxHeartbeats 4000000 in
set_option maxRecDepth 100000 in
theorem c_X9_back_i {Z : Zt} (zo : Zok Z) (l : Launch) (D : va_G) (cy : Cy) (L0 : List Nat) (f0 : Nat → va_E) (a0 : Nat) (x1 : Int) (lx1 : -2147483648 ≤ x1) (ux1 : x1 ≤ 2147483647) (m_a0 : a0 ∈ L0) (o_a0 : Ob f0 a0 7) (hg : GI cy L0 f0) : Ci Z l yX9_back (Cond.code yX9_back cX9_back 2 (some .boolean) :: TB) ({ frames := 3, cells := 0, slots := 0, locals := 103 } : Room) 0 0 D (tq cy) [.ref a0, .int (iI x1)] L0 f0 (fun (r : Int) (L1 : List Nat) (f1 : Nat → va_E) => L0 = L1 ∧ GI cy L0 f1 ∧ Ex cy f0 f1 ∧ BKc f0 a0 x1 r) := by
  refine Ci.enter (cc := cX9_back) (n := 2) rfl (plainFor_of_name (by decide)) (Nat.le_of_ble_eq_true rfl) ?_
  intro p e s m below meth c ls A hx hb hr hts hown hlocks hnm hml hK hA hAe hw hZ hl
  have hown : s.vm.findClass RX9 = some m.cls := hown
  have hl : lv_has ls 2 [(0, .ref a0), (1, .int (iI x1))] := hl
  have hN : ZN s := (zo.2.2.2.2 _ _ _ hZ).2
  have hE : Ex cy f0 f0 := Ex.refl cy f0
  refine lv_iload_n hx hb dX9_back_0 rfl (lv_at hl 1 rfl) ?_
  refine q_if_lt (tgt := 22) hx hb dX9_back_1 (by decide) ⟨lx1, ux1⟩ (fun c1 => ?_) (fun c1 => ?_)
  · refine q_iconst hx hb dX9_back_22 ?_
    exact q_ret_z hx hb hr hlocks hK hAe hw (by omega) (Nat.le_of_ble_eq_true rfl) (Nat.le_of_ble_eq_true rfl) dX9_back_23 (by exact ⟨rfl, hg, hE, by first | exact Or.inr ⟨by omega, Or.inl (by omega)⟩ | exact Or.inr ⟨by omega, Or.inr (Or.inl (by omega))⟩ | exact Or.inr ⟨by omega, Or.inr (Or.inr ((imV_r er_1).trans er_3))⟩ | exact Or.inl ⟨by omega, by omega, by omega, by rw [imV_r er_1, er_3]; exact Option.some_ne_none _⟩⟩)
  · refine lv_iload_n hx hb dX9_back_4 rfl (lv_at hl 1 rfl) ?_
    refine lv_aload_n hx hb dX9_back_5 rfl (lv_at hl 0 rfl) ?_
    obtain ⟨r_1, er_1, m_r_1, o_r_1⟩ := (show ∃ r, fR f0 a0 3 = some r ∧ r ∈ L0 ∧ ArR f0 r cy.2.2.2.2 2 from hg.2.1 _ m_a0 7 3 o_a0)
    refine q_getr (ci := 7) (C := RX9) (T := TX9) (N := 4) hx hb hts (fun w h => List.mem_cons_of_mem _ (mfX90 w h)) hown hK hw m_a0 o_a0 rfl 3 (by decide) (hts _ (List.mem_cons_of_mem _ (mr1 _ (List.mem_of_getElem? (i := 21) rfl)))) (fun _ h => h) rfl er_1 dX9_back_6 ?_
    refine q_alenR hx hb hK hw m_r_1 4 o_r_1 rfl dX9_back_9 ?_
    refine q_icmp_ge (tgt := 22) hx hb dX9_back_10 (by decide) ⟨lx1, ux1⟩ ⟨by decide, by decide⟩ (fun c10 => ?_) (fun c10 => ?_)
    · refine q_iconst hx hb dX9_back_22 ?_
      exact q_ret_z hx hb hr hlocks hK hAe hw (by omega) (Nat.le_of_ble_eq_true rfl) (Nat.le_of_ble_eq_true rfl) dX9_back_23 (by exact ⟨rfl, hg, hE, by first | exact Or.inr ⟨by omega, Or.inl (by omega)⟩ | exact Or.inr ⟨by omega, Or.inr (Or.inl (by omega))⟩ | exact Or.inr ⟨by omega, Or.inr (Or.inr ((imV_r er_1).trans er_3))⟩ | exact Or.inl ⟨by omega, by omega, by omega, by rw [imV_r er_1, er_3]; exact Option.some_ne_none _⟩⟩)
    · refine lv_aload_n hx hb dX9_back_13 rfl (lv_at hl 0 rfl) ?_
      refine q_getr (ci := 7) (C := RX9) (T := TX9) (N := 4) hx hb hts (fun w h => List.mem_cons_of_mem _ (mfX90 w h)) hown hK hw m_a0 o_a0 rfl 3 (by decide) (hts _ (List.mem_cons_of_mem _ (mr1 _ (List.mem_of_getElem? (i := 21) rfl)))) (fun _ h => h) rfl er_1 dX9_back_14 ?_
      refine lv_iload_n hx hb dX9_back_17 rfl (lv_at hl 1 rfl) ?_
      rcases hg.2.2.2 _ m_r_1 x1 o_r_1 (by omega) (by omega) with er_3 | ⟨r_3, er_3, m_r_3, o_r_3⟩
      · refine q_aald hx hb hK hw m_r_1 4 o_r_1 rfl ⟨lx1, ux1⟩ (by omega) (by omega) er_3 dX9_back_18 ?_
        show W _ _ _ _ _ _ _ _ _ _ _ _ _ _ _ (F0 m 19 ls (.null :: []))
        refine lv_ifnonnullN hx hb dX9_back_19 ?_
        refine q_iconst hx hb dX9_back_22 ?_
        exact q_ret_z hx hb hr hlocks hK hAe hw (by omega) (Nat.le_of_ble_eq_true rfl) (Nat.le_of_ble_eq_true rfl) dX9_back_23 (by exact ⟨rfl, hg, hE, by first | exact Or.inr ⟨by omega, Or.inl (by omega)⟩ | exact Or.inr ⟨by omega, Or.inr (Or.inl (by omega))⟩ | exact Or.inr ⟨by omega, Or.inr (Or.inr ((imV_r er_1).trans er_3))⟩ | exact Or.inl ⟨by omega, by omega, by omega, by rw [imV_r er_1, er_3]; exact Option.some_ne_none _⟩⟩)
      · refine q_aald hx hb hK hw m_r_1 4 o_r_1 rfl ⟨lx1, ux1⟩ (by omega) (by omega) er_3 dX9_back_18 ?_
        show W _ _ _ _ _ _ _ _ _ _ _ _ _ _ _ (F0 m 19 ls (.ref r_3 :: []))
        refine lv_ifnonnull (tgt := 24) hx hb dX9_back_19 (by decide) ?_
        refine lv_aload_n hx hb dX9_back_24 rfl (lv_at hl 0 rfl) ?_
        obtain ⟨r_4, er_4, m_r_4, o_r_4⟩ := (show ∃ r, fR f0 a0 2 = some r ∧ r ∈ L0 ∧ Ob f0 r 5 from hg.2.1 _ m_a0 7 2 o_a0)
        refine q_getr (ci := 7) (C := RX9) (T := TX9) (N := 4) hx hb hts (fun w h => List.mem_cons_of_mem _ (mfX90 w h)) hown hK hw m_a0 o_a0 rfl 2 (by decide) (hts _ (List.mem_cons_of_mem _ (mr1 _ (List.mem_of_getElem? (i := 20) rfl)))) (fun _ h => h) rfl er_4 dX9_back_25 ?_
        refine lv_aload_n hx hb dX9_back_28 rfl (lv_at hl 0 rfl) ?_
        refine q_getr (ci := 7) (C := RX9) (T := TX9) (N := 4) hx hb hts (fun w h => List.mem_cons_of_mem _ (mfX90 w h)) hown hK hw m_a0 o_a0 rfl 3 (by decide) (hts _ (List.mem_cons_of_mem _ (mr1 _ (List.mem_of_getElem? (i := 21) rfl)))) (fun _ h => h) rfl er_1 dX9_back_29 ?_
        refine lv_iload_n hx hb dX9_back_32 rfl (lv_at hl 1 rfl) ?_
        refine q_aald hx hb hK hw m_r_1 4 o_r_1 rfl ⟨lx1, ux1⟩ (by omega) (by omega) er_3 dX9_back_33 ?_
        show W _ _ _ _ _ _ _ _ _ _ _ _ _ _ _ (F0 m 34 ls (.ref r_3 :: [.ref r_4]))
        refine q_call_v hA hK hw (va_runV (As := [.ref r_3]) (rest := []) ⟨hx, hb, hml, hown, hts⟩ (c_X7_copyFrom zo l D cy L0 f0 r_4 r_3 m_r_4 o_r_4 m_r_3 o_r_3 hg _) (cwV 1 hts (gT (inV (mr44 _ (List.mem_of_getElem? (i := 18) rfl)) (mr44 _ (List.mem_of_getElem? (i := 19) rfl)) (mr44 _ (List.mem_of_getElem? (i := 20) rfl)) (mr1 _ (List.mem_of_getElem? (i := 19) rfl)) (mr44 _ (List.mem_of_getElem? (i := 21) rfl)))) rfl rfl rfl (by decide +kernel) ⟨Nat.le_of_ble_eq_true rfl, Nat.le_of_ble_eq_true rfl⟩) (Wd.preV zo hA hZ hw hK m_r_4 o_r_4 rfl) rfl rfl hl.1 rfl (lv_room (Nat.le_of_ble_eq_true rfl)) dX9_back_34 ⟨Nat.le_of_ble_eq_true rfl, Nat.le_of_ble_eq_true rfl⟩) (fun L1 f_7 H locs ex_6 hw => ?_)
        obtain ⟨rfl, hg, hX, ex_6⟩ := ex_6
        have hE := hE.trans hX
        have o_a0 := hX.1.1 _ _ o_a0
        refine q_iconst hx hb dX9_back_37 ?_
        exact q_ret_z hx hb hr hlocks hK hAe hw (by omega) (Nat.le_of_ble_eq_true rfl) (Nat.le_of_ble_eq_true rfl) dX9_back_38 (by exact ⟨rfl, hg, hE, by first | exact Or.inr ⟨by omega, Or.inl (by omega)⟩ | exact Or.inr ⟨by omega, Or.inr (Or.inl (by omega))⟩ | exact Or.inr ⟨by omega, Or.inr (Or.inr ((imV_r er_1).trans er_3))⟩ | exact Or.inl ⟨by omega, by omega, by omega, by rw [imV_r er_1, er_3]; exact Option.some_ne_none _⟩⟩)
set_option maxHeartbeats 4000000 in
set_option maxRecDepth 100000 in
theorem c_X10_image_3 {Z : Zt} (zo : Zok Z) (l : Launch) (D : va_G) (cy : Cy) (L0 : List Nat) (f0 : Nat → va_E) (a0 : Nat) (x1 : Int) (lx1 : -2147483648 ≤ x1) (ux1 : x1 ≤ 2147483647) (ad : Nat → Nat) (hs : MS cy L0 f0 a0 ad) (hv : MV f0 a0 ad) (hi : MI f0 a0 ad) : Ci Z l yX10_image (Cond.code yX10_image cX10_image 3 (some .boolean) :: TB) ({ frames := 1, cells := 0, slots := 0, locals := 22 } : Room) 0 0 D (tq cy) [.ref a0, .int (iI x1)] L0 f0 (fun (r : Int) (L1 : List Nat) (f1 : Nat → va_E) => L0 = L1 ∧ MS cy L0 f1 a0 ad ∧ Kp a0 ad [6, 7] [10] f0 f1 ∧ (MI f1 a0 ad ∧ IMm f0 f1 ad x1 r)) := by
  refine Ci.enter (cc := cX10_image) (n := 3) rfl (plainFor_of_name (by decide)) (Nat.le_of_ble_eq_true rfl) ?_
  intro p e s m below meth c ls A hx hb hr hts hown hlocks hnm hml hK hA hAe hw hZ hl
  have hown : s.vm.findClass RX10 = some m.cls := hown
  have hl : lv_has ls 3 [(0, .ref a0), (1, .int (iI x1))] := hl
  have hN : ZN s := (zo.2.2.2.2 _ _ _ hZ).2
  have hE : Kp a0 ad [6, 7] [10] f0 f0 := Kp.refl _ _ _ _ _
  refine lv_aload_n hx hb dX10_image_0 rfl (lv_at hl 0 rfl) ?_
  refine q_iconst hx hb dX10_image_1 ?_
  refine q_puti (ci := 8) (C := RX10) (T := TX10) (N := 26) hx hb hts (fun w h => List.mem_cons_of_mem _ (mfX100 w h)) hown hK hw hs.1 hs.2.1 rfl 10 (by decide) (hts _ (List.mem_cons_of_mem _ (mr4 _ (List.mem_of_getElem? (i := 19) rfl)))) (fun _ h => h) tyX10 tyX10_ok nmX10 rfl (ty := .int) (by decide +kernel) rfl rfl dX10_image_2 (fun H locs hw => ?_)
  obtain ⟨f_1, ef_1⟩ : ∃ g : Nat → va_E, g = pU f0 a0 10 (.int (iI 0)) := ⟨_, rfl⟩
  have v10_f_1 : fI f_1 a0 10 = 0 := by rw [ef_1]; exact fI_pU_self hs.2.1 rfl ⟨by decide, by decide⟩
  have t5_f_1 : fI f_1 a0 5 = fI f0 a0 5 := by rw [ef_1]; exact fI_pU (Or.inr (by decide))
  have hE := hE.trans (show Kp a0 ad [6, 7] [10] f0 f_1 by rw [ef_1]; exact Kp_pU hs (by decide))
  have hs_ := hs
  have hs : MS cy L0 f_1 a0 ad := by rw [ef_1]; exact MS_pU hs rfl
  rw [← ef_1] at hw
  have Q4 : aI f_1 (ad 4) = aI f0 (ad 4) := funext fun x => hE.1 4 rfl (by decide) x
  have hi1 : MI f_1 a0 ad := hi.kp (show Kp a0 ad [] [10] f0 f_1 by rw [ef_1]; exact Kp_pU hs_ (by decide)) (by decide) (by decide)
  have co : ∀ x : Int, aI f_1 (ad 6) x = aI f0 (ad 6) x := fun x => by rw [ef_1]; exact hs_.aI_pU _ _
  have c7 : ∀ x : Int, aI f_1 (ad 7) x = aI f0 (ad 7) x := fun x => by rw [ef_1]; exact hs_.aI_pU _ _
  refine lv_iload_n hx hb dX10_image_5 rfl (lv_at hl 1 rfl) ?_
  refine q_iconst hx hb dX10_image_6 ?_
  refine q_iconst hx hb dX10_image_7 ?_
  refine q_call_i hA hK hw (va_runS (As := [.int (iI x1), .int (iI 0), .int (iI 1)]) (rest := []) ⟨hx, hb, hml, hown, hts⟩ (c_X10_within zo l D cy L0 f_1 x1 lx1 ux1 0 (by decide) (by decide) 1 (by decide) (by decide) _) (va_cwS 3 hts (gT (inS (mr5 _ (List.mem_of_getElem? (i := 9) rfl)) (mr5 _ (List.mem_of_getElem? (i := 10) rfl)) (mr1 _ (List.mem_of_getElem? (i := 5) rfl)) (mr5 _ (List.mem_of_getElem? (i := 11) rfl)))) rfl rfl rfl (by decide +kernel) ⟨Nat.le_of_ble_eq_true rfl, Nat.le_of_ble_eq_true rfl⟩) (Wd.preS zo hA hZ hw hK) rfl rfl hl.1 rfl (lv_room (Nat.le_of_ble_eq_true rfl)) dX10_image_8 ⟨Nat.le_of_ble_eq_true rfl, Nat.le_of_ble_eq_true rfl⟩) (fun x_2 L1 f1 H locs lx_2 ux_2 ex_2 hw => ?_)
  obtain ⟨rfl, rfl, ex_2⟩ := ex_2
  refine q_if_ne (tgt := 16) hx hb dX10_image_11 (by decide) ⟨lx_2, ux_2⟩ (fun c11 => ?_) (fun c11 => ?_)
  · refine q_iconst hx hb dX10_image_16 ?_
    refine lv_istore_n (lv' := [(2, .int (iI 0)), (0, .ref a0), (1, .int (iI x1))]) hx hb dX10_image_17 rfl hl (by decide) rfl (fun ls hl => ?_)
    have J18 : ∀ (n18 : Nat) (y2_18 : Int) (ly2_18 : -2147483648 ≤ y2_18) (uy2_18 : y2_18 ≤ 2147483647) (L : List Nat) (fw18 : Nat → va_E) (hs : MS cy L0 fw18 a0 ad) (hE : Kp a0 ad [6, 7] [10] f0 fw18) (i1 : 0 ≤ y2_18) (i2 : y2_18 ≤ 528) (u5 : fI fw18 a0 5 = fI f0 a0 5) (cp : ∀ j : Int, 0 ≤ j → j < y2_18 → aI fw18 (ad 6) (528 * x1 + j) = aI f0 (ad 4) j) (co : ∀ x : Int, 0 ≤ x → (x < 528 * x1 ∨ 528 * x1 + 528 ≤ x) → aI fw18 (ad 6) x = aI f0 (ad 6) x) (c7 : ∀ x : Int, aI fw18 (ad 7) x = aI f0 (ad 7) x) (hn18 : ((2147483647 : Int) - y2_18).toNat < n18) (H : Heap) (locs : List Loc) (ls : Array Slot) (hw : Wd D A s.heap L0 fw18 H locs) (hl : lv_has ls 3 [(0, .ref a0), (1, .int (iI x1)), (2, .int (iI y2_18))]), W p l e ({ frames := 1, cells := 0, slots := 0, locals := 22 } : Room) s m ([.ref a0, .int (iI x1)] : List Value).toArray below meth c H locs (0 + 0) (0 + 0) (MQ below (Qi D (tq cy) L0 f0 s.heap.size (fun (r : Int) (L1 : List Nat) (f1 : Nat → va_E) => L0 = L1 ∧ MS cy L0 f1 a0 ad ∧ Kp a0 ad [6, 7] [10] f0 f1 ∧ (MI f1 a0 ad ∧ IMm f0 f1 ad x1 r))) ([.ref a0, .int (iI x1)] : List Value).toArray s 0 0 A) (F0 m 18 ls []) := by
      intro n18
      induction n18 with
      | zero => intro y2_18 ly2_18 uy2_18 L fw18 hs hE i1 i2 u5 cp co c7 hn18; exact absurd hn18 (Nat.not_lt_zero _)
      | succ n18 ih18 =>
        intro y2_18 ly2_18 uy2_18 L fw18 hs hE i1 i2 u5 cp co c7 hn18 H locs ls hw hl
        have Q4 : aI fw18 (ad 4) = aI f0 (ad 4) := funext fun x => hE.1 4 rfl (by decide) x
        refine lv_iload_n hx hb dX10_image_18 rfl (lv_at hl 2 rfl) ?_
        refine q_sipush hx hb dX10_image_19 rfl ?_
        refine q_icmp_ge (tgt := 49) hx hb dX10_image_22 (by decide) ⟨ly2_18, uy2_18⟩ ⟨by decide, by decide⟩ (fun c22 => ?_) (fun c22 => ?_)
        · refine lv_aload_n hx hb dX10_image_49 rfl (lv_at hl 0 rfl) ?_
          refine q_getr (ci := 8) (C := RX10) (T := TX10) (N := 26) hx hb hts (fun w h => List.mem_cons_of_mem _ (mfX100 w h)) hown hK hw hs.1 hs.2.1 rfl 7 (by decide) (hts _ (List.mem_cons_of_mem _ (mr3 _ (List.mem_of_getElem? (i := 16) rfl)))) (fun _ h => h) rfl (hs.2.2.1 7 rfl).1 dX10_image_50 ?_
          refine lv_iload_n hx hb dX10_image_53 rfl (lv_at hl 1 rfl) ?_
          refine lv_aload_n hx hb dX10_image_54 rfl (lv_at hl 0 rfl) ?_
          refine q_geti (ci := 8) (C := RX10) (T := TX10) (N := 26) hx hb hts (fun w h => List.mem_cons_of_mem _ (mfX100 w h)) hown hK hw hs.1 hs.2.1 rfl 5 (by decide) (hts _ (List.mem_cons_of_mem _ (mr19 _ (List.mem_of_getElem? (i := 1) rfl)))) (fun _ h => h) rfl dX10_image_55 (fun x_3 lx_3 ux_3 ex_3 => ?_)
          refine q_iast hx hb hK hw (hs.2.2.1 7 rfl).2.1 1 (hs.2.2.1 7 rfl).2.2 rfl ⟨lx1, ux1⟩ (by omega) (by show _ < ((2 : Nat) : Int); omega) dX10_image_58 (fun H locs hw => ?_)
          obtain ⟨f_4, ef_4⟩ : ∃ g : Nat → va_E, g = aU fw18 (ad 7) x1 (iI x_3) := ⟨_, rfl⟩
          have t5_f_4 : fI f_4 a0 5 = fI fw18 a0 5 := by rw [ef_4]; exact hs.fI_aU rfl _ _
          have hE := hE.trans (show Kp a0 ad [6, 7] [10] fw18 f_4 by rw [ef_4]; exact Kp_aU hs rfl (by decide))
          have hs_ := hs
          have hs : MS cy L0 f_4 a0 ad := by rw [ef_4]; exact MS_aU hs rfl
          rw [← ef_4] at hw
          have Q4 : aI f_4 (ad 4) = aI f0 (ad 4) := funext fun x => hE.1 4 rfl (by decide) x
          have hiz : MI f_4 a0 ad := hi.put (c := x1) (n := x_3) hv (by omega) (by omega) (by omega) (by rw [ef_4]; exact hs_.aI_self rfl ⟨by omega, by omega⟩) (fun x q0 q1 => Eq.trans (by rw [ef_4]; exact hs_.aI_nj rfl (by omega) q0 q1) (c7 x)) (fun j q0 q1 => Eq.trans (by rw [ef_4]; exact hs_.aI_ne rfl rfl (by decide) _) (cp j q0 (by omega))) (fun x q0 q1 => Eq.trans (by rw [ef_4]; exact hs_.aI_ne rfl rfl (by decide) _) (co x q0 q1))
          have h7 : 0 ≤ aI f_4 (ad 7) x1 := by
            have h9 : aI f_4 (ad 7) x1 = x_3 := by rw [ef_4]; exact hs_.aI_self rfl ⟨by omega, by omega⟩
            have h8 := hv.1
            omega
          refine q_iconst hx hb dX10_image_59 ?_
          exact q_ret_z hx hb hr hlocks hK hAe hw (by omega) (Nat.le_of_ble_eq_true rfl) (Nat.le_of_ble_eq_true rfl) dX10_image_60 (by exact ⟨rfl, hs, hE, hiz, Or.inl ⟨by omega, by omega, by omega⟩, fun j q0 q1 => Eq.trans (by rw [ef_4]; exact hs_.aI_nj rfl (by omega) q0 q1) (c7 j), fun _ => h7⟩)
        · refine lv_aload_n hx hb dX10_image_25 rfl (lv_at hl 0 rfl) ?_
          refine q_getr (ci := 8) (C := RX10) (T := TX10) (N := 26) hx hb hts (fun w h => List.mem_cons_of_mem _ (mfX100 w h)) hown hK hw hs.1 hs.2.1 rfl 6 (by decide) (hts _ (List.mem_cons_of_mem _ (mr3 _ (List.mem_of_getElem? (i := 15) rfl)))) (fun _ h => h) rfl (hs.2.2.1 6 rfl).1 dX10_image_26 ?_
          refine q_sipush hx hb dX10_image_29 rfl ?_
          refine lv_iload_n hx hb dX10_image_32 rfl (lv_at hl 1 rfl) ?_
          first | refine q_imul hx hb dX10_image_33 ⟨by omega, by omega⟩ (fun x_5 lx_5 ux_5 ex_5 => ?_) | refine q_imulw hx hb dX10_image_33 (fun x_5 lx_5 ux_5 ex_5 => ?_)
          refine lv_iload_n hx hb dX10_image_34 rfl (lv_at hl 2 rfl) ?_
          first | refine q_iadd hx hb dX10_image_35 ⟨by omega, by omega⟩ (fun x_6 lx_6 ux_6 ex_6 => ?_) | refine q_iaddw hx hb dX10_image_35 (fun x_6 lx_6 ux_6 ex_6 => ?_)
          refine lv_aload_n hx hb dX10_image_36 rfl (lv_at hl 0 rfl) ?_
          refine q_getr (ci := 8) (C := RX10) (T := TX10) (N := 26) hx hb hts (fun w h => List.mem_cons_of_mem _ (mfX100 w h)) hown hK hw hs.1 hs.2.1 rfl 4 (by decide) (hts _ (List.mem_cons_of_mem _ (mr3 _ (List.mem_of_getElem? (i := 14) rfl)))) (fun _ h => h) rfl (hs.2.2.1 4 rfl).1 dX10_image_37 ?_
          refine lv_iload_n hx hb dX10_image_40 rfl (lv_at hl 2 rfl) ?_
          refine q_iald hx hb hK hw (hs.2.2.1 4 rfl).2.1 1 (hs.2.2.1 4 rfl).2.2 rfl ⟨ly2_18, uy2_18⟩ (by omega) (by show _ < ((528 : Nat) : Int); omega) dX10_image_41 (fun x_7 lx_7 ux_7 ex_7 => ?_)
          have e41 : x_7 = aI f0 (ad 4) y2_18 := ex_7.trans (congrFun Q4 _)
          refine q_iast hx hb hK hw (hs.2.2.1 6 rfl).2.1 1 (hs.2.2.1 6 rfl).2.2 rfl ⟨lx_6, ux_6⟩ (by omega) (by show _ < ((1056 : Nat) : Int); omega) dX10_image_42 (fun H locs hw => ?_)
          obtain ⟨f_8, ef_8⟩ : ∃ g : Nat → va_E, g = aU fw18 (ad 6) x_6 (iI x_7) := ⟨_, rfl⟩
          have t5_f_8 : fI f_8 a0 5 = fI fw18 a0 5 := by rw [ef_8]; exact hs.fI_aU rfl _ _
          have hE := hE.trans (show Kp a0 ad [6, 7] [10] fw18 f_8 by rw [ef_8]; exact Kp_aU hs rfl (by decide))
          have hs_ := hs
          have hs : MS cy L0 f_8 a0 ad := by rw [ef_8]; exact MS_aU hs rfl
          rw [← ef_8] at hw
          have Q4 : aI f_8 (ad 4) = aI f0 (ad 4) := funext fun x => hE.1 4 rfl (by decide) x
          have v42 : aI f_8 (ad 6) (528 * x1 + y2_18) = aI f0 (ad 4) y2_18 := (aI_cg (show 528 * x1 + y2_18 = x_6 by omega)).trans (Eq.trans (by rw [ef_8]; exact hs_.aI_self rfl ⟨by omega, by omega⟩) e41)
          have cp' : ∀ j : Int, 0 ≤ j → j < y2_18 + 1 → aI f_8 (ad 6) (528 * x1 + j) = aI f0 (ad 4) j := by
            intro j q0 q1
            by_cases ej : j = y2_18
            · rw [ej]; exact v42
            · exact Eq.trans (by rw [ef_8]; exact hs_.aI_nj rfl (by omega) (by omega) (by omega)) (cp j q0 (by omega))
          have co' : ∀ x : Int, 0 ≤ x → (x < 528 * x1 ∨ 528 * x1 + 528 ≤ x) → aI f_8 (ad 6) x = aI f0 (ad 6) x := fun x q0 q1 => Eq.trans (by rw [ef_8]; exact hs_.aI_nj rfl (by omega) q0 (by omega)) (co x q0 q1)
          have c7' : ∀ x : Int, aI f_8 (ad 7) x = aI f0 (ad 7) x := fun x => Eq.trans (by rw [ef_8]; exact hs_.aI_ne rfl rfl (by decide) _) (c7 x)
          obtain ⟨x_9, lx_9, ux_9, hx_9, ex_9⟩ := q_inc y2_18 (1)
          try (replace ex_9 : x_9 = y2_18 + (1) := by omega)
          refine lv_iinc (v := iI x_9) (lv' := [(2, .int (iI x_9)), (0, .ref a0), (1, .int (iI x1))]) hx hb dX10_image_43 hl (k := 2) rfl hx_9 (by decide) rfl (fun ls hl => ?_)
          refine lv_goto (tgt := 18) hx hb dX10_image_46 (by decide) ?_
          exact ih18 x_9 lx_9 ux_9 L0 f_8 hs hE (by omega) (by omega) (by omega) (by first | (intro j q0 q1; exfalso; omega) | exact fun j q0 q1 => cp' j q0 (by omega)) (by first | exact fun x _ _ => co x | exact co') (by first | exact c7' | exact c7) (by omega) _ _ _ hw (lv_sub hl [1, 2, 0] rfl)
    exact J18 ((((2147483647 : Int) - 0).toNat) + 1) 0 (by decide) (by decide) L0 f_1 hs hE (by omega) (by omega) (by omega) (by first | (intro j q0 q1; exfalso; omega) | exact fun j q0 q1 => cp' j q0 (by omega)) (by first | exact fun x _ _ => co x | exact co') (by first | exact c7' | exact c7) (by omega) _ _ _ hw (lv_sub hl [1, 2, 0] rfl)
  · refine q_iconst hx hb dX10_image_14 ?_
    exact q_ret_z hx hb hr hlocks hK hAe hw (by omega) (Nat.le_of_ble_eq_true rfl) (Nat.le_of_ble_eq_true rfl) dX10_image_15 (by exact ⟨rfl, hs, hE, hi1, Or.inr ⟨by omega, by omega⟩, fun j _ _ => c7 j, fun h => absurd h (by decide)⟩)
set_option maxHeartbeats 4000000 in
set_option maxRecDepth 100000 in
theorem c_X10_back_3 {Z : Zt} (zo : Zok Z) (l : Launch) (D : va_G) (cy : Cy) (L0 : List Nat) (f0 : Nat → va_E) (a0 : Nat) (x1 : Int) (lx1 : -2147483648 ≤ x1) (ux1 : x1 ≤ 2147483647) (ad : Nat → Nat) (hs : MS cy L0 f0 a0 ad) (hv : MV f0 a0 ad) (hi : MI f0 a0 ad) : Ci Z l yX10_back (Cond.code yX10_back cX10_back 3 (some .boolean) :: TB) ({ frames := 1, cells := 0, slots := 0, locals := 22 } : Room) 0 0 D (tq cy) [.ref a0, .int (iI x1)] L0 f0 (fun (r : Int) (L1 : List Nat) (f1 : Nat → va_E) => L0 = L1 ∧ MS cy L0 f1 a0 ad ∧ Kp a0 ad [4] [5, 10] f0 f1 ∧ (MV f1 a0 ad ∧ BKm f0 ad x1 r)) := by
  refine Ci.enter (cc := cX10_back) (n := 3) rfl (plainFor_of_name (by decide)) (Nat.le_of_ble_eq_true rfl) ?_
  intro p e s m below meth c ls A hx hb hr hts hown hlocks hnm hml hK hA hAe hw hZ hl
  have hown : s.vm.findClass RX10 = some m.cls := hown
  have hl : lv_has ls 3 [(0, .ref a0), (1, .int (iI x1))] := hl
  have hN : ZN s := (zo.2.2.2.2 _ _ _ hZ).2
  have hE : Kp a0 ad [4] [5, 10] f0 f0 := Kp.refl _ _ _ _ _
  refine lv_aload_n hx hb dX10_back_0 rfl (lv_at hl 0 rfl) ?_
  refine q_iconst hx hb dX10_back_1 ?_
  refine q_puti (ci := 8) (C := RX10) (T := TX10) (N := 26) hx hb hts (fun w h => List.mem_cons_of_mem _ (mfX100 w h)) hown hK hw hs.1 hs.2.1 rfl 10 (by decide) (hts _ (List.mem_cons_of_mem _ (mr4 _ (List.mem_of_getElem? (i := 19) rfl)))) (fun _ h => h) tyX10 tyX10_ok nmX10 rfl (ty := .int) (by decide +kernel) rfl rfl dX10_back_2 (fun H locs hw => ?_)
  obtain ⟨f_1, ef_1⟩ : ∃ g : Nat → va_E, g = pU f0 a0 10 (.int (iI 0)) := ⟨_, rfl⟩
  have v10_f_1 : fI f_1 a0 10 = 0 := by rw [ef_1]; exact fI_pU_self hs.2.1 rfl ⟨by decide, by decide⟩
  have t5_f_1 : fI f_1 a0 5 = fI f0 a0 5 := by rw [ef_1]; exact fI_pU (Or.inr (by decide))
  have hE := hE.trans (show Kp a0 ad [4] [5, 10] f0 f_1 by rw [ef_1]; exact Kp_pU hs (by decide))
  have hs_ := hs
  have hs : MS cy L0 f_1 a0 ad := by rw [ef_1]; exact MS_pU hs rfl
  rw [← ef_1] at hw
  have Q6 : aI f_1 (ad 6) = aI f0 (ad 6) := funext fun x => hE.1 6 rfl (by decide) x
  have Q7 : aI f_1 (ad 7) = aI f0 (ad 7) := funext fun x => hE.1 7 rfl (by decide) x
  have hv1 : MV f_1 a0 ad := hv.kp (show Kp a0 ad [] [10] f0 f_1 by rw [ef_1]; exact Kp_pU hs_ (by decide)) (by decide) (by decide)
  refine lv_iload_n hx hb dX10_back_5 rfl (lv_at hl 1 rfl) ?_
  refine q_iconst hx hb dX10_back_6 ?_
  refine q_iconst hx hb dX10_back_7 ?_
  refine q_call_i hA hK hw (va_runS (As := [.int (iI x1), .int (iI 0), .int (iI 1)]) (rest := []) ⟨hx, hb, hml, hown, hts⟩ (c_X10_within zo l D cy L0 f_1 x1 lx1 ux1 0 (by decide) (by decide) 1 (by decide) (by decide) _) (va_cwS 3 hts (gT (inS (mr5 _ (List.mem_of_getElem? (i := 9) rfl)) (mr5 _ (List.mem_of_getElem? (i := 10) rfl)) (mr1 _ (List.mem_of_getElem? (i := 5) rfl)) (mr5 _ (List.mem_of_getElem? (i := 11) rfl)))) rfl rfl rfl (by decide +kernel) ⟨Nat.le_of_ble_eq_true rfl, Nat.le_of_ble_eq_true rfl⟩) (Wd.preS zo hA hZ hw hK) rfl rfl hl.1 rfl (lv_room (Nat.le_of_ble_eq_true rfl)) dX10_back_8 ⟨Nat.le_of_ble_eq_true rfl, Nat.le_of_ble_eq_true rfl⟩) (fun x_2 L1 f1 H locs lx_2 ux_2 ex_2 hw => ?_)
  obtain ⟨rfl, rfl, ex_2⟩ := ex_2
  refine q_if_eq (tgt := 23) hx hb dX10_back_11 (by decide) ⟨lx_2, ux_2⟩ (fun c11 => ?_) (fun c11 => ?_)
  · refine q_iconst hx hb dX10_back_23 ?_
    exact q_ret_z hx hb hr hlocks hK hAe hw (by omega) (Nat.le_of_ble_eq_true rfl) (Nat.le_of_ble_eq_true rfl) dX10_back_24 (by exact ⟨rfl, hs, hE, hv1, by first | exact Or.inl ⟨by omega, by omega, by omega, by omega⟩ | exact Or.inr ⟨by omega, Or.inl (by omega)⟩ | exact Or.inr ⟨by omega, Or.inr (Or.inl (by omega))⟩ | exact Or.inr ⟨by omega, Or.inr (Or.inr (by omega))⟩ | exact Or.inr ⟨by omega, by omega⟩⟩)
  · refine lv_aload_n hx hb dX10_back_14 rfl (lv_at hl 0 rfl) ?_
    refine q_getr (ci := 8) (C := RX10) (T := TX10) (N := 26) hx hb hts (fun w h => List.mem_cons_of_mem _ (mfX100 w h)) hown hK hw hs.1 hs.2.1 rfl 7 (by decide) (hts _ (List.mem_cons_of_mem _ (mr3 _ (List.mem_of_getElem? (i := 16) rfl)))) (fun _ h => h) rfl (hs.2.2.1 7 rfl).1 dX10_back_15 ?_
    refine lv_iload_n hx hb dX10_back_18 rfl (lv_at hl 1 rfl) ?_
    refine q_iald hx hb hK hw (hs.2.2.1 7 rfl).2.1 1 (hs.2.2.1 7 rfl).2.2 rfl ⟨lx1, ux1⟩ (by omega) (by show _ < ((2 : Nat) : Int); omega) dX10_back_19 (fun x_3 lx_3 ux_3 ex_3 => ?_)
    have e19 : x_3 = aI f0 (ad 7) x1 := ex_3.trans (congrFun Q7 _)
    refine q_if_ge (tgt := 25) hx hb dX10_back_20 (by decide) ⟨lx_3, ux_3⟩ (fun c20 => ?_) (fun c20 => ?_)
    · refine q_iconst hx hb dX10_back_25 ?_
      refine lv_istore_n (lv' := [(2, .int (iI 0)), (0, .ref a0), (1, .int (iI x1))]) hx hb dX10_back_26 rfl hl (by decide) rfl (fun ls hl => ?_)
      have J27 : ∀ (n27 : Nat) (y2_27 : Int) (ly2_27 : -2147483648 ≤ y2_27) (uy2_27 : y2_27 ≤ 2147483647) (L : List Nat) (fw27 : Nat → va_E) (hs : MS cy L0 fw27 a0 ad) (hE : Kp a0 ad [4] [5, 10] f0 fw27) (i1 : 0 ≤ y2_27) (i2 : y2_27 ≤ 528) (cp : ∀ j : Int, 0 ≤ j → j < y2_27 → aI fw27 (ad 4) j = aI f0 (ad 6) (528 * x1 + j)) (hn27 : ((2147483647 : Int) - y2_27).toNat < n27) (H : Heap) (locs : List Loc) (ls : Array Slot) (hw : Wd D A s.heap L0 fw27 H locs) (hl : lv_has ls 3 [(0, .ref a0), (1, .int (iI x1)), (2, .int (iI y2_27))]), W p l e ({ frames := 1, cells := 0, slots := 0, locals := 22 } : Room) s m ([.ref a0, .int (iI x1)] : List Value).toArray below meth c H locs (0 + 0) (0 + 0) (MQ below (Qi D (tq cy) L0 f0 s.heap.size (fun (r : Int) (L1 : List Nat) (f1 : Nat → va_E) => L0 = L1 ∧ MS cy L0 f1 a0 ad ∧ Kp a0 ad [4] [5, 10] f0 f1 ∧ (MV f1 a0 ad ∧ BKm f0 ad x1 r))) ([.ref a0, .int (iI x1)] : List Value).toArray s 0 0 A) (F0 m 27 ls []) := by
        intro n27
        induction n27 with
        | zero => intro y2_27 ly2_27 uy2_27 L fw27 hs hE i1 i2 cp hn27; exact absurd hn27 (Nat.not_lt_zero _)
        | succ n27 ih27 =>
          intro y2_27 ly2_27 uy2_27 L fw27 hs hE i1 i2 cp hn27 H locs ls hw hl
          have Q6 : aI fw27 (ad 6) = aI f0 (ad 6) := funext fun x => hE.1 6 rfl (by decide) x
          have Q7 : aI fw27 (ad 7) = aI f0 (ad 7) := funext fun x => hE.1 7 rfl (by decide) x
          refine lv_iload_n hx hb dX10_back_27 rfl (lv_at hl 2 rfl) ?_
          refine q_sipush hx hb dX10_back_28 rfl ?_
          refine q_icmp_ge (tgt := 58) hx hb dX10_back_31 (by decide) ⟨ly2_27, uy2_27⟩ ⟨by decide, by decide⟩ (fun c31 => ?_) (fun c31 => ?_)
          · refine lv_aload_n hx hb dX10_back_58 rfl (lv_at hl 0 rfl) ?_
            refine lv_aload_n hx hb dX10_back_59 rfl (lv_at hl 0 rfl) ?_
            refine q_getr (ci := 8) (C := RX10) (T := TX10) (N := 26) hx hb hts (fun w h => List.mem_cons_of_mem _ (mfX100 w h)) hown hK hw hs.1 hs.2.1 rfl 7 (by decide) (hts _ (List.mem_cons_of_mem _ (mr3 _ (List.mem_of_getElem? (i := 16) rfl)))) (fun _ h => h) rfl (hs.2.2.1 7 rfl).1 dX10_back_60 ?_
            refine lv_iload_n hx hb dX10_back_63 rfl (lv_at hl 1 rfl) ?_
            refine q_iald hx hb hK hw (hs.2.2.1 7 rfl).2.1 1 (hs.2.2.1 7 rfl).2.2 rfl ⟨lx1, ux1⟩ (by omega) (by show _ < ((2 : Nat) : Int); omega) dX10_back_64 (fun x_4 lx_4 ux_4 ex_4 => ?_)
            have e64 : x_4 = aI f0 (ad 7) x1 := ex_4.trans (congrFun Q7 _)
            refine q_puti (ci := 8) (C := RX10) (T := TX10) (N := 26) hx hb hts (fun w h => List.mem_cons_of_mem _ (mfX100 w h)) hown hK hw hs.1 hs.2.1 rfl 5 (by decide) (hts _ (List.mem_cons_of_mem _ (mr19 _ (List.mem_of_getElem? (i := 1) rfl)))) (fun _ h => h) tyX10 tyX10_ok nmX10 rfl (ty := .int) (by decide +kernel) rfl rfl dX10_back_65 (fun H locs hw => ?_)
            obtain ⟨f_5, ef_5⟩ : ∃ g : Nat → va_E, g = pU fw27 a0 5 (.int (iI x_4)) := ⟨_, rfl⟩
            have v5_f_5 : fI f_5 a0 5 = x_4 := by rw [ef_5]; exact fI_pU_self hs.2.1 rfl ⟨lx_4, ux_4⟩
            have hE := hE.trans (show Kp a0 ad [4] [5, 10] fw27 f_5 by rw [ef_5]; exact Kp_pU hs (by decide))
            have hs_ := hs
            have hs : MS cy L0 f_5 a0 ad := by rw [ef_5]; exact MS_pU hs rfl
            rw [← ef_5] at hw
            have Q6 : aI f_5 (ad 6) = aI f0 (ad 6) := funext fun x => hE.1 6 rfl (by decide) x
            have Q7 : aI f_5 (ad 7) = aI f0 (ad 7) := funext fun x => hE.1 7 rfl (by decide) x
            have hvz : MV f_5 a0 ad := hi.get (c := x1) (by omega) (by omega) (by omega) (v5_f_5.trans e64) (fun j q0 q1 => Eq.trans (by rw [ef_5]; exact hs_.aI_pU _ _) (cp j q0 (by omega)))
            refine q_iconst hx hb dX10_back_68 ?_
            exact q_ret_z hx hb hr hlocks hK hAe hw (by omega) (Nat.le_of_ble_eq_true rfl) (Nat.le_of_ble_eq_true rfl) dX10_back_69 (by exact ⟨rfl, hs, hE, hvz, by first | exact Or.inl ⟨by omega, by omega, by omega, by omega⟩ | exact Or.inr ⟨by omega, Or.inl (by omega)⟩ | exact Or.inr ⟨by omega, Or.inr (Or.inl (by omega))⟩ | exact Or.inr ⟨by omega, Or.inr (Or.inr (by omega))⟩ | exact Or.inr ⟨by omega, by omega⟩⟩)
          · refine lv_aload_n hx hb dX10_back_34 rfl (lv_at hl 0 rfl) ?_
            refine q_getr (ci := 8) (C := RX10) (T := TX10) (N := 26) hx hb hts (fun w h => List.mem_cons_of_mem _ (mfX100 w h)) hown hK hw hs.1 hs.2.1 rfl 4 (by decide) (hts _ (List.mem_cons_of_mem _ (mr3 _ (List.mem_of_getElem? (i := 14) rfl)))) (fun _ h => h) rfl (hs.2.2.1 4 rfl).1 dX10_back_35 ?_
            refine lv_iload_n hx hb dX10_back_38 rfl (lv_at hl 2 rfl) ?_
            refine lv_aload_n hx hb dX10_back_39 rfl (lv_at hl 0 rfl) ?_
            refine q_getr (ci := 8) (C := RX10) (T := TX10) (N := 26) hx hb hts (fun w h => List.mem_cons_of_mem _ (mfX100 w h)) hown hK hw hs.1 hs.2.1 rfl 6 (by decide) (hts _ (List.mem_cons_of_mem _ (mr3 _ (List.mem_of_getElem? (i := 15) rfl)))) (fun _ h => h) rfl (hs.2.2.1 6 rfl).1 dX10_back_40 ?_
            refine q_sipush hx hb dX10_back_43 rfl ?_
            refine lv_iload_n hx hb dX10_back_46 rfl (lv_at hl 1 rfl) ?_
            first | refine q_imul hx hb dX10_back_47 ⟨by omega, by omega⟩ (fun x_6 lx_6 ux_6 ex_6 => ?_) | refine q_imulw hx hb dX10_back_47 (fun x_6 lx_6 ux_6 ex_6 => ?_)
            refine lv_iload_n hx hb dX10_back_48 rfl (lv_at hl 2 rfl) ?_
            first | refine q_iadd hx hb dX10_back_49 ⟨by omega, by omega⟩ (fun x_7 lx_7 ux_7 ex_7 => ?_) | refine q_iaddw hx hb dX10_back_49 (fun x_7 lx_7 ux_7 ex_7 => ?_)
            refine q_iald hx hb hK hw (hs.2.2.1 6 rfl).2.1 1 (hs.2.2.1 6 rfl).2.2 rfl ⟨lx_7, ux_7⟩ (by omega) (by show _ < ((1056 : Nat) : Int); omega) dX10_back_50 (fun x_8 lx_8 ux_8 ex_8 => ?_)
            have e50 : x_8 = aI f0 (ad 6) (528 * x1 + y2_27) := ex_8.trans ((congrFun Q6 _).trans (aI_cg (by omega)))
            refine q_iast hx hb hK hw (hs.2.2.1 4 rfl).2.1 1 (hs.2.2.1 4 rfl).2.2 rfl ⟨ly2_27, uy2_27⟩ (by omega) (by show _ < ((528 : Nat) : Int); omega) dX10_back_51 (fun H locs hw => ?_)
            obtain ⟨f_9, ef_9⟩ : ∃ g : Nat → va_E, g = aU fw27 (ad 4) y2_27 (iI x_8) := ⟨_, rfl⟩
            have t5_f_9 : fI f_9 a0 5 = fI fw27 a0 5 := by rw [ef_9]; exact hs.fI_aU rfl _ _
            have hE := hE.trans (show Kp a0 ad [4] [5, 10] fw27 f_9 by rw [ef_9]; exact Kp_aU hs rfl (by decide))
            have hs_ := hs
            have hs : MS cy L0 f_9 a0 ad := by rw [ef_9]; exact MS_aU hs rfl
            rw [← ef_9] at hw
            have Q6 : aI f_9 (ad 6) = aI f0 (ad 6) := funext fun x => hE.1 6 rfl (by decide) x
            have Q7 : aI f_9 (ad 7) = aI f0 (ad 7) := funext fun x => hE.1 7 rfl (by decide) x
            have v51 : aI f_9 (ad 4) y2_27 = aI f0 (ad 6) (528 * x1 + y2_27) := Eq.trans (by rw [ef_9]; exact hs_.aI_self rfl ⟨by omega, by omega⟩) e50
            have cp' : ∀ j : Int, 0 ≤ j → j < y2_27 + 1 → aI f_9 (ad 4) j = aI f0 (ad 6) (528 * x1 + j) := by
              intro j q0 q1
              by_cases ej : j = y2_27
              · rw [ej]; exact v51
              · exact Eq.trans (by rw [ef_9]; exact hs_.aI_nj rfl (by omega) (by omega) (by omega)) (cp j q0 (by omega))
            obtain ⟨x_10, lx_10, ux_10, hx_10, ex_10⟩ := q_inc y2_27 (1)
            try (replace ex_10 : x_10 = y2_27 + (1) := by omega)
            refine lv_iinc (v := iI x_10) (lv' := [(2, .int (iI x_10)), (0, .ref a0), (1, .int (iI x1))]) hx hb dX10_back_52 hl (k := 2) rfl hx_10 (by decide) rfl (fun ls hl => ?_)
            refine lv_goto (tgt := 27) hx hb dX10_back_55 (by decide) ?_
            exact ih27 x_10 lx_10 ux_10 L0 f_9 hs hE (by omega) (by omega) (by first | (intro j q0 q1; exfalso; omega) | exact fun j q0 q1 => cp' j q0 (by omega)) (by omega) _ _ _ hw (lv_sub hl [1, 2, 0] rfl)
      exact J27 ((((2147483647 : Int) - 0).toNat) + 1) 0 (by decide) (by decide) L0 f_1 hs hE (by omega) (by omega) (by first | (intro j q0 q1; exfalso; omega) | exact fun j q0 q1 => cp' j q0 (by omega)) (by omega) _ _ _ hw (lv_sub hl [1, 2, 0] rfl)
    · refine q_iconst hx hb dX10_back_23 ?_
      exact q_ret_z hx hb hr hlocks hK hAe hw (by omega) (Nat.le_of_ble_eq_true rfl) (Nat.le_of_ble_eq_true rfl) dX10_back_24 (by exact ⟨rfl, hs, hE, hv1, by first | exact Or.inl ⟨by omega, by omega, by omega, by omega⟩ | exact Or.inr ⟨by omega, Or.inl (by omega)⟩ | exact Or.inr ⟨by omega, Or.inr (Or.inl (by omega))⟩ | exact Or.inr ⟨by omega, Or.inr (Or.inr (by omega))⟩ | exact Or.inr ⟨by omega, by omega⟩⟩)
