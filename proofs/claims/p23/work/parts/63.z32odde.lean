/-! ===== new rows have arrays of their own ===== -/
def HAR (L0 L : List Nat) (f : Nat → va_E) (R : Nat) (y : Int) : Prop := ∀ (j : Int) (b : Nat), 0 ≤ j → j < y → aR f R j = some b → (KA f b ∉ L0 ∧ TA f b ∉ L0 ∧ KA f b ≠ TA f b ∧ KA f b ∈ L ∧ TA f b ∈ L) ∧ ∀ (k : Int) (c : Nat), 0 ≤ k → k < y → j ≠ k → aR f R k = some c → AD f b c
theorem KA_of {f g : Nat → va_E} {b : Nat} (e : g b = f b) : KA g b = KA f b ∧ TA g b = TA f b := ⟨by unfold KA; rw [fR_of e], by unfold TA; rw [fR_of e]⟩
theorem HAR.off {L0 L L' M2 : List Nat} {f g : Nat → va_E} {R : Nat} {y : Int} (h : HAR L0 L f R y) (hrow : ∀ j : Int, 0 ≤ j → j < y → ∃ b, aR f R j = some b ∧ b ∈ M2 ∧ Ob f b 0) (eR : g R = f R) (e : ∀ b ∈ M2, g b = f b) (hL : ∀ x ∈ L, x ∈ L') : HAR L0 L' g R y := by
  have key : ∀ (j : Int) (b : Nat), 0 ≤ j → j < y → aR f R j = some b → KA g b = KA f b ∧ TA g b = TA f b := fun j b j0 j1 q => by
    obtain ⟨b', q1, q2, -⟩ := hrow j j0 j1
    rw [← Option.some.inj (q1.symm.trans q)]
    exact KA_of (e b' q2)
  intro j b j0 j1 q
  rw [aR_of eR] at q
  obtain ⟨⟨h1, h2, h3, h4, h5⟩, h6⟩ := h j b j0 j1 q
  have k1 := key j b j0 j1 q
  refine ⟨by rw [k1.1, k1.2]; exact ⟨h1, h2, h3, hL _ h4, hL _ h5⟩, fun k c c0 c1 n w => ?_⟩
  rw [aR_of eR] at w
  exact (h6 k c c0 c1 n w).ka k1 (key k c c0 c1 w)
theorem HAR.add {L0 L L' : List Nat} {f g : Nat → va_E} {R q n : Nat} {cA : ClassId} {y y' : Int} (h : HAR L0 L f R y) (y0 : 0 ≤ y) (o : ArR f R cA n) (e : g = rU f R y (some q)) (hs : ∀ x ∈ L0, x ∈ L) (fk : KA f q ∉ L) (ft : TA f q ∉ L) (fkt : KA f q ≠ TA f q) (mk : KA f q ∈ L') (mt : TA f q ∈ L') (hL : ∀ x ∈ L, x ∈ L') (ey : y' = y + 1) : HAR L0 L' g R y' := by
  have kg : ∀ b : Nat, KA g b = KA f b ∧ TA g b = TA f b := fun b => by rw [e]; exact ⟨by unfold KA; rw [fR_rU o], by unfold TA; rw [fR_rU o]⟩
  have ar : ∀ (j : Int) (b : Nat), 0 ≤ j → aR g R j = some b → (j = y ∧ b = q) ∨ (j ≠ y ∧ aR f R j = some b) := fun j b j0 w => by
    by_cases c : j = y
    · rw [c, e, aR_rU_self o] at w; exact Or.inl ⟨c, (Option.some.inj w).symm⟩
    · rw [e, aR_rU_nj o y0 j0 c] at w; exact Or.inr ⟨c, w⟩
  intro j b j0 j1 w
  rcases ar j b j0 w with ⟨c1, c2⟩ | ⟨c1, c2⟩
  · rw [c2, (kg q).1, (kg q).2]
    refine ⟨⟨fun z => fk (hs _ z), fun z => ft (hs _ z), fkt, mk, mt⟩, fun k c k0 k1 n w2 => ?_⟩
    rcases ar k c k0 w2 with ⟨d1, d2⟩ | ⟨d1, d2⟩
    · exact absurd (c1.trans d1.symm) n
    · obtain ⟨⟨-, -, -, h4, h5⟩, -⟩ := h k c k0 (by omega) d2
      exact AD.ka (f := f) ⟨fun z => fk (by rw [z]; exact h4), fun z => fk (by rw [z]; exact h5), fun z => ft (by rw [z]; exact h4), fun z => ft (by rw [z]; exact h5)⟩ (kg q) (kg c)
  · obtain ⟨⟨h1, h2, h3, h4, h5⟩, h6⟩ := h j b j0 (by omega) c2
    rw [(kg b).1, (kg b).2]
    refine ⟨⟨h1, h2, h3, hL _ h4, hL _ h5⟩, fun k c k0 k1 n w2 => ?_⟩
    rcases ar k c k0 w2 with ⟨d1, d2⟩ | ⟨d1, d2⟩
    · rw [d2]
      exact AD.ka (f := f) ⟨fun z => fk (by rw [← z]; exact h4), fun z => ft (by rw [← z]; exact h4), fun z => fk (by rw [← z]; exact h5), fun z => ft (by rw [← z]; exact h5)⟩ (kg b) (kg q)
    · exact (h6 k c k0 (by omega) n d2).ka (kg b) (kg c)
def ARS (f : Nat → va_E) (rq : Int → Nat) : Prop := (∀ i : Int, 0 ≤ i → i < 12 → KA f (rq i) ≠ TA f (rq i)) ∧ (∀ i j : Int, 0 ≤ i → i < 12 → 0 ≤ j → j < 12 → i ≠ j → AD f (rq i) (rq j))
def ARN (L0 : List Nat) (f : Nat → va_E) (rq : Int → Nat) : Prop := ARS f rq ∧ ∀ i : Int, 0 ≤ i → i < 12 → KA f (rq i) ∉ L0 ∧ TA f (rq i) ∉ L0
theorem HAR.made {L0 L : List Nat} {f : Nat → va_E} {a R : Nat} {y : Int} (h : HAR L0 L f R y) (w : fR f a 0 = some R) (hy : 12 ≤ y) (x : ∃ rq : Int → Nat, SF f a rq ∧ ∀ i : Int, 0 ≤ i → i < 12 → rq i ∉ L0) : ∃ rq : Int → Nat, SF f a rq ∧ (∀ i : Int, 0 ≤ i → i < 12 → rq i ∉ L0) ∧ ARN L0 f rq := by
  obtain ⟨rq, sf, fr⟩ := x
  obtain ⟨b, eb, hb⟩ := sf.2.1
  have z : b = R := Option.some.inj (eb.symm.trans w)
  rw [z] at hb
  refine ⟨rq, sf, fr, ⟨fun i i0 i1 => (h i _ i0 (by omega) (hb i i0 i1)).1.2.2.1, fun i j i0 i1 j0 j1 n => (h i _ i0 (by omega) (hb i i0 i1)).2 j _ j0 (by omega) n (hb j j0 j1)⟩, fun i i0 i1 => ⟨(h i _ i0 (by omega) (hb i i0 i1)).1.1, (h i _ i0 (by omega) (hb i i0 i1)).1.2.1⟩⟩
theorem ARS.off {cy : Cy} {M : List Nat} {f g : Nat → va_E} {sh : Nat} {rq : Int → Nat} (an : ARS f rq) (hg : GI cy M f) (ms : sh ∈ M) (sf : SF f sh rq) (e : ∀ x ∈ M, g x = f x) : ARS g rq := by
  obtain ⟨_, -, -, -, hrow⟩ := rows_of hg ms sf
  have k : ∀ i : Int, 0 ≤ i → i < 12 → KA g (rq i) = KA f (rq i) ∧ TA g (rq i) = TA f (rq i) := fun i i0 i1 => KA_of (e _ (hrow i i0 i1).2)
  exact ⟨fun i i0 i1 => by rw [(k i i0 i1).1, (k i i0 i1).2]; exact an.1 i i0 i1, fun i j i0 i1 j0 j1 n => (an.2 i j i0 i1 j0 j1 n).ka (k i i0 i1) (k j j0 j1)⟩
theorem ARN.rU {L0 : List Nat} {f g : Nat → va_E} {R n : Nat} {cA : ClassId} {j : Int} {v : Option Nat} {rq : Int → Nat} (an : ARN L0 f rq) (o : ArR f R cA n) (e : g = Jvm.Pilot.CBookIndexLaw_law_r3826_022878.rU f R j v) : ARN L0 g rq := by
  have k : ∀ b : Nat, KA g b = KA f b ∧ TA g b = TA f b := fun b => by rw [e]; exact ⟨by unfold KA; rw [fR_rU o], by unfold TA; rw [fR_rU o]⟩
  exact ⟨⟨fun i i0 i1 => by rw [(k _).1, (k _).2]; exact an.1.1 i i0 i1, fun i l i0 i1 l0 l1 n => (an.1.2 i l i0 i1 l0 l1 n).ka (k _) (k _)⟩, fun i i0 i1 => by rw [(k _).1, (k _).2]; exact an.2 i i0 i1⟩
theorem ADR.new {L0 : List Nat} {g : Nat → va_E} {rn rq : Int → Nat} (an : ARN L0 g rn) (h : ∀ j : Int, 0 ≤ j → j < 12 → KA g (rq j) ∈ L0 ∧ TA g (rq j) ∈ L0) : ADR g rn rq :=
  ⟨fun i j i0 i1 j0 j1 => ⟨fun z => (an.2 i i0 i1).1 (by rw [z]; exact (h j j0 j1).1), fun z => (an.2 i i0 i1).1 (by rw [z]; exact (h j j0 j1).2), fun z => (an.2 i i0 i1).2 (by rw [z]; exact (h j j0 j1).1), fun z => (an.2 i i0 i1).2 (by rw [z]; exact (h j j0 j1).2)⟩, an.1.2, an.1.1⟩
theorem AO.in {cy : Cy} {M : List Nat} {f : Nat → va_E} {b : Nat} (hg : GI cy M f) (m : b ∈ M) (o : Ob f b 0) : AO cy f b ∧ KA f b ∈ M ∧ TA f b ∈ M := by
  obtain ⟨r, r1, r2, r3⟩ := (show ∃ r, fR f b 11 = some r ∧ r ∈ M ∧ ArI f r cy.2.1 16 from hg.2.1 _ m 0 11 o)
  obtain ⟨q, q1, q2, q3⟩ := (show ∃ r, fR f b 12 = some r ∧ r ∈ M ∧ ArI f r cy.2.1 16 from hg.2.1 _ m 0 12 o)
  exact ⟨AO.of hg m o, by rw [← KA_e r1]; exact r2, by rw [← TA_e q1]; exact q2⟩
set_option maxHeartbeats 4000000 in
set_option maxRecDepth 100000 in
theorem c_X0_init_o {Z : Zt} (zo : Zok Z) (l : Launch) (D : va_G) (cy : Cy) (L0 : List Nat) (f0 : Nat → va_E) (a0 : Nat) (a1 : Nat) (m_a0 : a0 ∈ L0) (o_a0 : Ob f0 a0 0) (m_a1 : a1 ∈ L0) (o_a1 : Rl f0 a1) (M : List Nat) (hM : ∀ x ∈ M, x ∈ L0) (hg : GI cy M f0) (hn0 : a0 ∉ M) (ma1 : a1 ∈ M) (h10 : 0 ≤ fI f0 a0 10 ∧ fI f0 a0 10 ≤ 16) : Cv Z l yX0_init (Cond.code yX0_init cX0_init 2 none :: TB) ({ frames := 1, cells := 2, slots := 32, locals := 20 } : Room) 2 32 D (tq cy) [.ref a0, .ref a1] L0 f0 (fun (L1 : List Nat) (f1 : Nat → va_E) => PA cy M L0 f0 a0 0 L1 f1 ∧ KA f1 a0 ∉ L0 ∧ TA f1 a0 ∉ L0 ∧ KA f1 a0 ≠ TA f1 a0) := by
  refine Cv.enter (cc := cX0_init) (n := 2) rfl (plainFor_of_name (by decide)) (Nat.le_of_ble_eq_true rfl) ?_
  intro p e s m below meth c ls A hx hb hr hts hown hlocks hnm hml hK hA hAe hw hZ hl
  have hown : s.vm.findClass RX0 = some m.cls := hown
  have hl : lv_has ls 2 [(0, .ref a0), (1, .ref a1)] := hl
  have hN : ZN s := (zo.2.2.2.2 _ _ _ hZ).2
  have ha0 := m_a0
  have hML := hM
  have hM0 : ∀ x ∈ M, x ∈ M := fun _ h => h
  have hMc : ∀ x ∈ M, x ∈ M ∨ x ∉ L0 := fun _ h => Or.inl h
  have hs : ∀ x ∈ L0, x ∈ L0 := fun _ h => h
  have hc : ∀ x ∈ L0, x ∈ L0 ∨ x ∈ M ∨ x ∈ ([] : List Nat) := fun _ h => Or.inl h
  have hO : ∀ x ∈ L0, x ≠ a0 → f0 x = f0 x := fun _ _ _ => rfl
  have mg_a1 := ma1
  have i_10 : fI f0 a0 10 = fI f0 a0 10 := rfl
  refine lv_aload_n hx hb dX0_init_0 rfl (lv_at hl 0 rfl) ?_
  refine W.objInit hx hb hown (hts _ (List.mem_cons_of_mem _ (mr3 _ (List.mem_of_getElem? (i := 0) rfl)))) (hts _ (List.mem_cons_of_mem _ (mr1 _ (List.mem_of_getElem? (i := 12) rfl)))) (hts _ (List.mem_cons_of_mem _ (mr1 _ (List.mem_of_getElem? (i := 13) rfl)))) rfl (by rw [hml]; exact hl.1) rfl dX0_init_1 (Nat.le_of_ble_eq_true rfl) (Nat.le_of_ble_eq_true rfl) ?_
  refine W.eq (g2 := F0 m 4 ls []) rfl ?_
  refine lv_aload_n hx hb dX0_init_4 rfl (lv_at hl 0 rfl) ?_
  refine q_bipush hx hb dX0_init_5 rfl ?_
  refine q_newI (n := 16) (cA := cy.2.1) hx hb (hts _ (List.mem_cons_of_mem _ (mr3 _ (List.mem_of_getElem? (i := 1) rfl)))) rfl rfl 1 rfl hK hw hA (by decide) (by decide) (by show 0 + 1 ≤ 2; omega) (by show 0 + 16 ≤ 32; omega) dX0_init_7 (fun q_1 H n_q_1 hw => ?_)
  obtain ⟨f_2, ef_2⟩ : ∃ g : Nat → va_E, g = va_up f0 q_1 (.inl (cy.2.1, 16, .inl (fun _ => 0))) := ⟨_, rfl⟩
  rw [← ef_2] at hw
  have hq : ∀ x ∈ L0, f_2 x = f0 x := fun x h => by rw [ef_2]; exact va_up_ne _ _ (fun z => n_q_1 (z ▸ h))
  have o_a0 := Ob_of (hq _ m_a0) o_a0
  have o_a1 := Rl_of (hq _ m_a1) o_a1
  have i_10 := (fI_of (k := 10) (hq _ m_a0)).trans i_10
  have hO : ∀ x ∈ L0, x ≠ a0 → f_2 x = f0 x := fun x m h => (hq x (hs x m)).trans (hO x m h)
  have hg := hg.off (fun x h => hq x (hML x h))
  have ne_a0 : a0 ≠ q_1 := fun z => n_q_1 (z ▸ m_a0)
  have m_a0 : a0 ∈ L0 ++ [q_1] := List.mem_append_left _ m_a0
  have ne_a1 : a1 ≠ q_1 := fun z => n_q_1 (z ▸ m_a1)
  have m_a1 : a1 ∈ L0 ++ [q_1] := List.mem_append_left _ m_a1
  have m_q_1 : q_1 ∈ L0 ++ [q_1] := List.mem_append_right _ (List.mem_singleton.mpr rfl)
  have nq_q_1 : q_1 ∉ L0 := fun z => n_q_1 (hs _ z)
  have nm_q_1 : q_1 ∉ M := fun z => n_q_1 (hML _ z)
  have hs : ∀ x ∈ L0, x ∈ L0 ++ [q_1] := fun x h => List.mem_append_left _ (hs x h)
  have o_q_1 : ArI f_2 q_1 cy.2.1 16 := by rw [ef_2]; exact ⟨_, va_up_self _ _ _⟩
  have hg := hg.addI o_q_1
  have mg_a1 : a1 ∈ M ++ [q_1] := List.mem_append_left _ mg_a1
  have mg_q_1 : q_1 ∈ M ++ [q_1] := List.mem_append_right _ (List.mem_singleton.mpr rfl)
  have hML : ∀ x ∈ M ++ [q_1], x ∈ L0 ++ [q_1] := fun x h => (List.mem_append.mp h).elim (fun h => List.mem_append_left _ (hML x h)) (fun h => by rw [List.mem_singleton.mp h]; exact m_q_1)
  have hM0 : ∀ x ∈ M, x ∈ M ++ [q_1] := fun x h => List.mem_append_left _ (hM0 x h)
  have hMc : ∀ x ∈ M ++ [q_1], x ∈ M ∨ x ∉ L0 := fun x h => (List.mem_append.mp h).elim (fun h => hMc x h) (fun h => by rw [List.mem_singleton.mp h]; exact Or.inr nq_q_1)
  have hc : ∀ x ∈ L0 ++ [q_1], x ∈ L0 ∨ x ∈ (M ++ [q_1]) ∨ x ∈ ([] : List Nat) := fun x h => (List.mem_append.mp h).elim (fun h => (hc x h).elim Or.inl (fun h => h.elim (fun h => Or.inr (Or.inl (List.mem_append_left _ h))) (fun h => Or.inr (Or.inr h)))) (fun h => Or.inr (Or.inl (List.mem_append_right _ h)))
  refine q_putFr (ci := 0) (C := RX0) (T := TX0) (N := 15) hx hb hts (fun w h => List.mem_cons_of_mem _ (mfX00 w h)) hown hK hw m_a0 o_a0 rfl 11 (by decide) (hts _ (List.mem_cons_of_mem _ (mr3 _ (List.mem_of_getElem? (i := 2) rfl)))) (fun _ h => h) tyX0 tyX0_ok nmX0 rfl hnm rfl (ty := tyX0 11) (by decide +kernel) rfl rfl rfl dX0_init_9 (fun H locs hw => ?_)
  obtain ⟨f_3, ef_3⟩ : ∃ g : Nat → va_E, g = pU f_2 a0 11 (.ref q_1) := ⟨_, rfl⟩
  rw [← ef_3] at hw
  have oo := o_a0
  have hq : ∀ x : Nat, x ≠ a0 → f_3 x = f_2 x := fun x h => by rw [ef_3]; exact pU_ne h
  have hX : Sh f_2 f_3 := by rw [ef_3]; exact Sh_pU oo rfl rfl
  have o_a0 := hX.1 _ _ o_a0
  have o_a1 := Rl.mono hX o_a1
  have o_q_1 := hX.2.1 _ _ _ o_q_1
  have hg := hg.off (fun x h => hq x (fun z => (hMc x h).elim (fun h => hn0 (z ▸ h)) (fun h => h (z ▸ ha0))))
  have hO : ∀ x ∈ L0, x ≠ a0 → f_3 x = f0 x := fun x m h => (hq x h).trans (hO x m h)
  have i_10 := (show fI f_3 a0 10 = fI f_2 a0 10 by rw [ef_3]; exact fI_pU (Or.inr (by decide))).trans i_10
  have w_11 : fR f_3 a0 11 = some q_1 := by rw [ef_3]; exact fR_pU_self oo rfl
  refine lv_aload_n hx hb dX0_init_12 rfl (lv_at hl 0 rfl) ?_
  refine q_bipush hx hb dX0_init_13 rfl ?_
  refine q_newI (n := 16) (cA := cy.2.1) hx hb (hts _ (List.mem_cons_of_mem _ (mr3 _ (List.mem_of_getElem? (i := 1) rfl)))) rfl rfl 1 rfl hK hw hA (by decide) (by decide) (by show 0 + 1 + 1 ≤ 2; omega) (by show 0 + 16 + 16 ≤ 32; omega) dX0_init_15 (fun q_4 H n_q_4 hw => ?_)
  obtain ⟨f_5, ef_5⟩ : ∃ g : Nat → va_E, g = va_up f_3 q_4 (.inl (cy.2.1, 16, .inl (fun _ => 0))) := ⟨_, rfl⟩
  rw [← ef_5] at hw
  have hq : ∀ x ∈ (L0 ++ [q_1]), f_5 x = f_3 x := fun x h => by rw [ef_5]; exact va_up_ne _ _ (fun z => n_q_4 (z ▸ h))
  have o_a0 := Ob_of (hq _ m_a0) o_a0
  have o_a1 := Rl_of (hq _ m_a1) o_a1
  have o_q_1 := ArI_of (hq _ m_q_1) o_q_1
  have w_11 := (fR_of (k := 11) (hq _ m_a0)).trans w_11
  have i_10 := (fI_of (k := 10) (hq _ m_a0)).trans i_10
  have hO : ∀ x ∈ L0, x ≠ a0 → f_5 x = f0 x := fun x m h => (hq x (hs x m)).trans (hO x m h)
  have hg := hg.off (fun x h => hq x (hML x h))
  have ne_a0 : a0 ≠ q_4 := fun z => n_q_4 (z ▸ m_a0)
  have m_a0 : a0 ∈ (L0 ++ [q_1]) ++ [q_4] := List.mem_append_left _ m_a0
  have ne_a1 : a1 ≠ q_4 := fun z => n_q_4 (z ▸ m_a1)
  have m_a1 : a1 ∈ (L0 ++ [q_1]) ++ [q_4] := List.mem_append_left _ m_a1
  have ne_q_1 : q_1 ≠ q_4 := fun z => n_q_4 (z ▸ m_q_1)
  have m_q_1 : q_1 ∈ (L0 ++ [q_1]) ++ [q_4] := List.mem_append_left _ m_q_1
  have m_q_4 : q_4 ∈ (L0 ++ [q_1]) ++ [q_4] := List.mem_append_right _ (List.mem_singleton.mpr rfl)
  have nq_q_4 : q_4 ∉ L0 := fun z => n_q_4 (hs _ z)
  have nm_q_4 : q_4 ∉ (M ++ [q_1]) := fun z => n_q_4 (hML _ z)
  have hs : ∀ x ∈ L0, x ∈ (L0 ++ [q_1]) ++ [q_4] := fun x h => List.mem_append_left _ (hs x h)
  have o_q_4 : ArI f_5 q_4 cy.2.1 16 := by rw [ef_5]; exact ⟨_, va_up_self _ _ _⟩
  have hg := hg.addI o_q_4
  have mg_a1 : a1 ∈ (M ++ [q_1]) ++ [q_4] := List.mem_append_left _ mg_a1
  have mg_q_1 : q_1 ∈ (M ++ [q_1]) ++ [q_4] := List.mem_append_left _ mg_q_1
  have mg_q_4 : q_4 ∈ (M ++ [q_1]) ++ [q_4] := List.mem_append_right _ (List.mem_singleton.mpr rfl)
  have hML : ∀ x ∈ (M ++ [q_1]) ++ [q_4], x ∈ (L0 ++ [q_1]) ++ [q_4] := fun x h => (List.mem_append.mp h).elim (fun h => List.mem_append_left _ (hML x h)) (fun h => by rw [List.mem_singleton.mp h]; exact m_q_4)
  have hM0 : ∀ x ∈ M, x ∈ (M ++ [q_1]) ++ [q_4] := fun x h => List.mem_append_left _ (hM0 x h)
  have hMc : ∀ x ∈ (M ++ [q_1]) ++ [q_4], x ∈ M ∨ x ∉ L0 := fun x h => (List.mem_append.mp h).elim (fun h => hMc x h) (fun h => by rw [List.mem_singleton.mp h]; exact Or.inr nq_q_4)
  have hc : ∀ x ∈ (L0 ++ [q_1]) ++ [q_4], x ∈ L0 ∨ x ∈ ((M ++ [q_1]) ++ [q_4]) ∨ x ∈ ([] : List Nat) := fun x h => (List.mem_append.mp h).elim (fun h => (hc x h).elim Or.inl (fun h => h.elim (fun h => Or.inr (Or.inl (List.mem_append_left _ h))) (fun h => Or.inr (Or.inr h)))) (fun h => Or.inr (Or.inl (List.mem_append_right _ h)))
  refine q_putFr (ci := 0) (C := RX0) (T := TX0) (N := 15) hx hb hts (fun w h => List.mem_cons_of_mem _ (mfX00 w h)) hown hK hw m_a0 o_a0 rfl 12 (by decide) (hts _ (List.mem_cons_of_mem _ (mr3 _ (List.mem_of_getElem? (i := 3) rfl)))) (fun _ h => h) tyX0 tyX0_ok nmX0 rfl hnm rfl (ty := tyX0 12) (by decide +kernel) rfl rfl rfl dX0_init_17 (fun H locs hw => ?_)
  obtain ⟨f_6, ef_6⟩ : ∃ g : Nat → va_E, g = pU f_5 a0 12 (.ref q_4) := ⟨_, rfl⟩
  rw [← ef_6] at hw
  have oo := o_a0
  have hq : ∀ x : Nat, x ≠ a0 → f_6 x = f_5 x := fun x h => by rw [ef_6]; exact pU_ne h
  have hX : Sh f_5 f_6 := by rw [ef_6]; exact Sh_pU oo rfl rfl
  have o_a0 := hX.1 _ _ o_a0
  have o_a1 := Rl.mono hX o_a1
  have o_q_1 := hX.2.1 _ _ _ o_q_1
  have o_q_4 := hX.2.1 _ _ _ o_q_4
  have hg := hg.off (fun x h => hq x (fun z => (hMc x h).elim (fun h => hn0 (z ▸ h)) (fun h => h (z ▸ ha0))))
  have hO : ∀ x ∈ L0, x ≠ a0 → f_6 x = f0 x := fun x m h => (hq x h).trans (hO x m h)
  have w_11 : fR f_6 a0 11 = some q_1 := by rw [ef_6, fR_pU (Or.inr (by decide))]; exact w_11
  have i_10 := (show fI f_6 a0 10 = fI f_5 a0 10 by rw [ef_6]; exact fI_pU (Or.inr (by decide))).trans i_10
  have w_12 : fR f_6 a0 12 = some q_4 := by rw [ef_6]; exact fR_pU_self oo rfl
  refine lv_aload_n hx hb dX0_init_20 rfl (lv_at hl 0 rfl) ?_
  refine lv_aload_n hx hb dX0_init_21 rfl (lv_at hl 1 rfl) ?_
  refine q_putr (ci := 0) (C := RX0) (T := TX0) (N := 15) hx hb hts (fun w h => List.mem_cons_of_mem _ (mfX00 w h)) hown hK hw m_a0 o_a0 rfl 3 (by decide) (hts _ (List.mem_cons_of_mem _ (mr3 _ (List.mem_of_getElem? (i := 4) rfl)))) (fun _ h => h) tyX0 tyX0_ok nmX0 rfl (ty := tyX0 3) (by decide +kernel) rfl rfl rfl dX0_init_22 (fun H locs hw => ?_)
  obtain ⟨f_7, ef_7⟩ : ∃ g : Nat → va_E, g = pU f_6 a0 3 (.ref a1) := ⟨_, rfl⟩
  rw [← ef_7] at hw
  have oo := o_a0
  have hq : ∀ x : Nat, x ≠ a0 → f_7 x = f_6 x := fun x h => by rw [ef_7]; exact pU_ne h
  have hX : Sh f_6 f_7 := by rw [ef_7]; exact Sh_pU oo rfl rfl
  have o_a0 := hX.1 _ _ o_a0
  have o_a1 := Rl.mono hX o_a1
  have o_q_1 := hX.2.1 _ _ _ o_q_1
  have o_q_4 := hX.2.1 _ _ _ o_q_4
  have hg := hg.off (fun x h => hq x (fun z => (hMc x h).elim (fun h => hn0 (z ▸ h)) (fun h => h (z ▸ ha0))))
  have hO : ∀ x ∈ L0, x ≠ a0 → f_7 x = f0 x := fun x m h => (hq x h).trans (hO x m h)
  have w_11 : fR f_7 a0 11 = some q_1 := by rw [ef_7, fR_pU (Or.inr (by decide))]; exact w_11
  have w_12 : fR f_7 a0 12 = some q_4 := by rw [ef_7, fR_pU (Or.inr (by decide))]; exact w_12
  have i_10 := (show fI f_7 a0 10 = fI f_6 a0 10 by rw [ef_7]; exact fI_pU (Or.inr (by decide))).trans i_10
  have w_3 : fR f_7 a0 3 = some a1 := by rw [ef_7]; exact fR_pU_self oo rfl
  have q_11 : fR f_7 a0 11 = some q_1 ∧ q_1 ∈ ((M ++ [q_1]) ++ [q_4]) ++ [a0] ∧ _ := ⟨w_11, List.mem_append_left _ mg_q_1, o_q_1⟩
  have q_12 : fR f_7 a0 12 = some q_4 ∧ q_4 ∈ ((M ++ [q_1]) ++ [q_4]) ++ [a0] ∧ _ := ⟨w_12, List.mem_append_left _ mg_q_4, o_q_4⟩
  have q_3 : fR f_7 a0 3 = some a1 ∧ a1 ∈ ((M ++ [q_1]) ++ [q_4]) ++ [a0] ∧ _ := ⟨w_3, List.mem_append_left _ mg_a1, o_a1⟩
  have hg := hg.addOb o_a0 (fcond_0 (by rw [i_10]; exact h10)) (rcond_0 q_3 q_11 q_12)
  exact q_ret_v hx hb hr hlocks hK hAe hw (by show 0 + 1 + 1 ≤ 2; omega) (by show 0 + 16 + 16 ≤ 32; omega) dX0_init_25 ⟨⟨((M ++ [q_1]) ++ [q_4]) ++ [a0], fun x h => List.mem_append_left _ (hM0 x h), fun x h => (List.mem_append.mp h).elim (fun h => hML x h) (fun h => by rw [List.mem_singleton.mp h]; exact m_a0), fun x h => (List.mem_append.mp h).elim (fun h => (hMc x h).elim Or.inl (fun h => Or.inr (Or.inr h))) (fun h => Or.inr (Or.inl (List.mem_singleton.mp h))), List.mem_append_right _ (List.mem_singleton.mpr rfl), hs, fun x h => (hc x h).elim Or.inl (fun h => h.elim (fun h => Or.inr (List.mem_append_left _ h)) (fun h => absurd h List.not_mem_nil)), hg, hO, o_a0⟩, by rw [← KA_e w_11]; exact nq_q_1, by rw [← TA_e w_12]; exact nq_q_4, by rw [← KA_e w_11, ← TA_e w_12]; exact ne_q_1⟩
set_option maxHeartbeats 4000000 in
set_option maxRecDepth 100000 in
theorem c_X7_init_o {Z : Zt} (zo : Zok Z) (l : Launch) (D : va_G) (cy : Cy) (L0 : List Nat) (f0 : Nat → va_E) (a0 : Nat) (m_a0 : a0 ∈ L0) (o_a0 : Ob f0 a0 5) (M : List Nat) (hM : ∀ x ∈ M, x ∈ L0) (hg : GI cy M f0) (hn0 : a0 ∉ M) : Cv Z l yX7_init (Cond.code yX7_init cX7_init 3 none :: TB) ({ frames := 3, cells := 38, slots := 579, locals := 64 } : Room) 38 579 D (tq cy) [.ref a0] L0 f0 (fun (L1 : List Nat) (f1 : Nat → va_E) => PA cy M L0 f0 a0 5 L1 f1 ∧ (∃ rq : Int → Nat, SF f1 a0 rq ∧ (∀ i : Int, 0 ≤ i → i < 12 → rq i ∉ L0) ∧ ARN L0 f1 rq) ∧ fI f1 a0 1 = 0) := by
  refine Cv.enter (cc := cX7_init) (n := 3) rfl (plainFor_of_name (by decide)) (Nat.le_of_ble_eq_true rfl) ?_
  intro p e s m below meth c ls A hx hb hr hts hown hlocks hnm hml hK hA hAe hw hZ hl
  have hown : s.vm.findClass RX7 = some m.cls := hown
  have hl : lv_has ls 3 [(0, .ref a0)] := hl
  have hN : ZN s := (zo.2.2.2.2 _ _ _ hZ).2
  have ha0 := m_a0
  have hML := hM
  have hM0 : ∀ x ∈ M, x ∈ M := fun _ h => h
  have hMc : ∀ x ∈ M, x ∈ M ∨ x ∉ L0 := fun _ h => Or.inl h
  have hs : ∀ x ∈ L0, x ∈ L0 := fun _ h => h
  have hc : ∀ x ∈ L0, x ∈ L0 ∨ x ∈ M ∨ x ∈ ([] : List Nat) := fun _ h => Or.inl h
  have hO : ∀ x ∈ L0, x ≠ a0 → f0 x = f0 x := fun _ _ _ => rfl
  refine lv_aload_n hx hb dX7_init_0 rfl (lv_at hl 0 rfl) ?_
  refine W.objInit hx hb hown (hts _ (List.mem_cons_of_mem _ (mr2 _ (List.mem_of_getElem? (i := 1) rfl)))) (hts _ (List.mem_cons_of_mem _ (mr1 _ (List.mem_of_getElem? (i := 12) rfl)))) (hts _ (List.mem_cons_of_mem _ (mr1 _ (List.mem_of_getElem? (i := 13) rfl)))) rfl (by rw [hml]; exact hl.1) rfl dX7_init_1 (Nat.le_of_ble_eq_true rfl) (Nat.le_of_ble_eq_true rfl) ?_
  refine W.eq (g2 := F0 m 4 ls []) rfl ?_
  refine lv_aload_n hx hb dX7_init_4 rfl (lv_at hl 0 rfl) ?_
  refine q_bipush hx hb dX7_init_5 rfl ?_
  refine q_newR (n := 12) (cA := cy.2.2.2.1) (C := RX0) hx hb hown (hts _ (List.mem_cons_of_mem _ (mr2 _ (List.mem_of_getElem? (i := 2) rfl)))) (hN _ (List.mem_of_getElem? (i := 19) rfl)) 3 rfl hK hw hA (by decide) (by decide) (by show 0 + 1 ≤ 38; omega) (by show 0 + 12 ≤ 579; omega) dX7_init_7 (fun q_1 H n_q_1 hw => ?_)
  obtain ⟨f_2, ef_2⟩ : ∃ g : Nat → va_E, g = va_up f0 q_1 (.inl (cy.2.2.2.1, 12, .inr (.inr (.inr (.inr (fun _ => none)))))) := ⟨_, rfl⟩
  rw [← ef_2] at hw
  have hq : ∀ x ∈ L0, f_2 x = f0 x := fun x h => by rw [ef_2]; exact va_up_ne _ _ (fun z => n_q_1 (z ▸ h))
  have o_a0 := Ob_of (hq _ m_a0) o_a0
  have hO : ∀ x ∈ L0, x ≠ a0 → f_2 x = f0 x := fun x m h => (hq x (hs x m)).trans (hO x m h)
  have hg := hg.off (fun x h => hq x (hML x h))
  have ne_a0 : a0 ≠ q_1 := fun z => n_q_1 (z ▸ m_a0)
  have m_a0 : a0 ∈ L0 ++ [q_1] := List.mem_append_left _ m_a0
  have m_q_1 : q_1 ∈ L0 ++ [q_1] := List.mem_append_right _ (List.mem_singleton.mpr rfl)
  have nq_q_1 : q_1 ∉ L0 := fun z => n_q_1 (hs _ z)
  have nm_q_1 : q_1 ∉ M := fun z => n_q_1 (hML _ z)
  have hs : ∀ x ∈ L0, x ∈ L0 ++ [q_1] := fun x h => List.mem_append_left _ (hs x h)
  have o_q_1 : ArR f_2 q_1 cy.2.2.2.1 12 := by rw [ef_2]; exact ⟨_, va_up_self _ _ _⟩
  have hML : ∀ x ∈ M, x ∈ L0 ++ [q_1] := fun x h => List.mem_append_left _ (hML x h)
  have hc : ∀ x ∈ L0 ++ [q_1], x ∈ L0 ∨ x ∈ M ∨ x ∈ ([q_1]) := fun x h => (List.mem_append.mp h).elim (fun h => (hc x h).elim Or.inl (fun h => h.elim (fun h => Or.inr (Or.inl h)) (fun h => Or.inr (Or.inr (List.mem_append_left [q_1] h))))) (fun h => Or.inr (Or.inr (List.mem_append_right [] h)))
  refine q_putFr (ci := 5) (C := RX7) (T := TX7) (N := 2) hx hb hts (fun w h => List.mem_cons_of_mem _ (mfX70 w h)) hown hK hw m_a0 o_a0 rfl 0 (by decide) (hts _ (List.mem_cons_of_mem _ (mr2 _ (List.mem_of_getElem? (i := 3) rfl)))) (fun _ h => h) tyX7 tyX7_ok nmX7 rfl hnm rfl (ty := tyX7 0) (by decide +kernel) rfl rfl rfl dX7_init_10 (fun H locs hw => ?_)
  obtain ⟨f_3, ef_3⟩ : ∃ g : Nat → va_E, g = pU f_2 a0 0 (.ref q_1) := ⟨_, rfl⟩
  rw [← ef_3] at hw
  have oo := o_a0
  have hq : ∀ x : Nat, x ≠ a0 → f_3 x = f_2 x := fun x h => by rw [ef_3]; exact pU_ne h
  have hX : Sh f_2 f_3 := by rw [ef_3]; exact Sh_pU oo rfl rfl
  have o_a0 := hX.1 _ _ o_a0
  have o_q_1 := hX.2.2 _ _ _ o_q_1
  have hg := hg.off (fun x h => hq x (fun z => (hMc x h).elim (fun h => hn0 (z ▸ h)) (fun h => h (z ▸ ha0))))
  have hO : ∀ x ∈ L0, x ≠ a0 → f_3 x = f0 x := fun x m h => (hq x h).trans (hO x m h)
  have w_0 : fR f_3 a0 0 = some q_1 := by rw [ef_3]; exact fR_pU_self oo rfl
  refine lv_aload_n hx hb dX7_init_13 rfl (lv_at hl 0 rfl) ?_
  refine q_iconst hx hb dX7_init_14 ?_
  refine q_puti (ci := 5) (C := RX7) (T := TX7) (N := 2) hx hb hts (fun w h => List.mem_cons_of_mem _ (mfX70 w h)) hown hK hw m_a0 o_a0 rfl 1 (by decide) (hts _ (List.mem_cons_of_mem _ (mr2 _ (List.mem_of_getElem? (i := 4) rfl)))) (fun _ h => h) tyX7 tyX7_ok nmX7 rfl (ty := .int) (by decide +kernel) rfl rfl dX7_init_15 (fun H locs hw => ?_)
  obtain ⟨f_4, ef_4⟩ : ∃ g : Nat → va_E, g = pU f_3 a0 1 (.int (iI 0)) := ⟨_, rfl⟩
  rw [← ef_4] at hw
  have oo := o_a0
  have hq : ∀ x : Nat, x ≠ a0 → f_4 x = f_3 x := fun x h => by rw [ef_4]; exact pU_ne h
  have hX : Sh f_3 f_4 := by rw [ef_4]; exact Sh_pU oo rfl rfl
  have o_a0 := hX.1 _ _ o_a0
  have o_q_1 := hX.2.2 _ _ _ o_q_1
  have hg := hg.off (fun x h => hq x (fun z => (hMc x h).elim (fun h => hn0 (z ▸ h)) (fun h => h (z ▸ ha0))))
  have hO : ∀ x ∈ L0, x ≠ a0 → f_4 x = f0 x := fun x m h => (hq x h).trans (hO x m h)
  have w_0 : fR f_4 a0 0 = some q_1 := by rw [ef_4, fR_pU (Or.inr (by decide))]; exact w_0
  have i_1 : fI f_4 a0 1 = 0 := by rw [ef_4]; exact fI_pU_self oo rfl ⟨by decide, by decide⟩
  refine q_new (ci := 3) (C := RX4) (T := TX4) (N := 3) (fs := [.int 0, .int 0, .int 0]) hx hb hts (fun w h => List.mem_cons_of_mem _ (mfX40 w h)) tyX4 tyX4_ok hown (hts _ (List.mem_cons_of_mem _ (mr2 _ (List.mem_of_getElem? (i := 5) rfl)))) (hts _ (List.mem_cons_of_mem _ (mr2 _ (List.mem_of_getElem? (i := 6) rfl)))) (hts _ (List.mem_cons_of_mem _ (mr2 _ (List.mem_of_getElem? (i := 7) rfl)))) hK hw hA rfl (by decide) (by show 0 + 1 + 1 ≤ 38; omega) (by show 0 + 12 + 3 ≤ 579; omega) dX7_init_18 (fun q_5 H n_q_5 hw => ?_)
  obtain ⟨f_6, ef_6⟩ : ∃ g : Nat → va_E, g = va_up f_4 q_5 (.inr (3, [.int 0, .int 0, .int 0])) := ⟨_, rfl⟩
  rw [← ef_6] at hw
  have hq : ∀ x ∈ (L0 ++ [q_1]), f_6 x = f_4 x := fun x h => by rw [ef_6]; exact va_up_ne _ _ (fun z => n_q_5 (z ▸ h))
  have o_a0 := Ob_of (hq _ m_a0) o_a0
  have o_q_1 := ArR_of (hq _ m_q_1) o_q_1
  have w_0 := (fR_of (k := 0) (hq _ m_a0)).trans w_0
  have i_1 := (fI_of (k := 1) (hq _ m_a0)).trans i_1
  have hO : ∀ x ∈ L0, x ≠ a0 → f_6 x = f0 x := fun x m h => (hq x (hs x m)).trans (hO x m h)
  have hg := hg.off (fun x h => hq x (hML x h))
  have ne_a0 : a0 ≠ q_5 := fun z => n_q_5 (z ▸ m_a0)
  have m_a0 : a0 ∈ (L0 ++ [q_1]) ++ [q_5] := List.mem_append_left _ m_a0
  have ne_q_1 : q_1 ≠ q_5 := fun z => n_q_5 (z ▸ m_q_1)
  have m_q_1 : q_1 ∈ (L0 ++ [q_1]) ++ [q_5] := List.mem_append_left _ m_q_1
  have m_q_5 : q_5 ∈ (L0 ++ [q_1]) ++ [q_5] := List.mem_append_right _ (List.mem_singleton.mpr rfl)
  have nq_q_5 : q_5 ∉ L0 := fun z => n_q_5 (hs _ z)
  have nm_q_5 : q_5 ∉ M := fun z => n_q_5 (hML _ z)
  have hs : ∀ x ∈ L0, x ∈ (L0 ++ [q_1]) ++ [q_5] := fun x h => List.mem_append_left _ (hs x h)
  have o_q_5 : Ob f_6 q_5 3 := by rw [ef_6]; exact ⟨_, va_up_self _ _ _, rfl⟩
  have hML : ∀ x ∈ M, x ∈ (L0 ++ [q_1]) ++ [q_5] := fun x h => List.mem_append_left _ (hML x h)
  have hc : ∀ x ∈ (L0 ++ [q_1]) ++ [q_5], x ∈ L0 ∨ x ∈ M ∨ x ∈ ([q_1, q_5]) := fun x h => (List.mem_append.mp h).elim (fun h => (hc x h).elim Or.inl (fun h => h.elim (fun h => Or.inr (Or.inl h)) (fun h => Or.inr (Or.inr (List.mem_append_left [q_5] h))))) (fun h => Or.inr (Or.inr (List.mem_append_right [q_1] h)))
  refine lv_dup hx hb dX7_init_21 rfl ?_
  refine q_iconst hx hb dX7_init_22 ?_
  refine q_call_v hA hK hw (va_runI (As := [.int (iI 0)]) (rest := [.ref q_5]) ⟨hx, hb, hml, hown, hts⟩ (c_X4_init zo l D cy ((L0 ++ [q_1]) ++ [q_5]) f_6 q_5 0 (by decide) (by decide) m_q_5 o_q_5 M hML hg _) (cwI 1 hts (gT (inC (mr2 _ (List.mem_of_getElem? (i := 12) rfl)))) rfl rfl rfl (hts _ (List.mem_cons_of_mem _ (mr2 _ (List.mem_of_getElem? (i := 7) rfl)))) (hts _ (List.mem_cons_of_mem _ (mr2 _ (List.mem_of_getElem? (i := 10) rfl)))) (hts _ (List.mem_cons_of_mem _ (mr2 _ (List.mem_of_getElem? (i := 11) rfl)))) rfl (by decide +kernel) ⟨Nat.le_of_ble_eq_true rfl, Nat.le_of_ble_eq_true rfl⟩) (Wd.preS zo hA hZ hw hK) rfl rfl hl.1 rfl (lv_room (Nat.le_of_ble_eq_true rfl)) dX7_init_23 ⟨(by show 0 + 1 + 1 + 0 ≤ 38; omega), (by show 0 + 12 + 3 + 0 ≤ 579; omega)⟩) (fun L1 f_8 H locs ex_7 hw => ?_)
  obtain ⟨rfl, hg, hX, hq, ex_7⟩ := ex_7
  have o_q_5 := hX.1.1 _ _ o_q_5
  have o_a0 := Ob_of (hq _ m_a0 ne_a0) o_a0
  have o_q_1 := ArR_of (hq _ m_q_1 ne_q_1) o_q_1
  have w_0 := (fR_of (k := 0) (hq _ m_a0 ne_a0)).trans w_0
  have i_1 := (fI_of (k := 1) (hq _ m_a0 ne_a0)).trans i_1
  have hO : ∀ x ∈ L0, x ≠ a0 → f_8 x = f0 x := fun x m h => (hq x (hs x m) (fun z => nq_q_5 (z ▸ m))).trans (hO x m h)
  have hg := hg.addOb o_q_5 fcond_3 rcond_3
  have mg_q_5 : q_5 ∈ M ++ [q_5] := List.mem_append_right _ (List.mem_singleton.mpr rfl)
  have hML : ∀ x ∈ M ++ [q_5], x ∈ ((L0 ++ [q_1]) ++ [q_5]) := fun x h => (List.mem_append.mp h).elim (fun h => hML x h) (fun h => by rw [List.mem_singleton.mp h]; exact m_q_5)
  have hM0 : ∀ x ∈ M, x ∈ M ++ [q_5] := fun x h => List.mem_append_left _ (hM0 x h)
  have hMc : ∀ x ∈ M ++ [q_5], x ∈ M ∨ x ∉ L0 := fun x h => (List.mem_append.mp h).elim (fun h => hMc x h) (fun h => by rw [List.mem_singleton.mp h]; exact Or.inr nq_q_5)
  have nm_q_1 : q_1 ∉ M ++ [q_5] := fun h => (List.mem_append.mp h).elim nm_q_1 (fun h => ne_q_1 (List.mem_singleton.mp h))
  have hc : ∀ x ∈ ((L0 ++ [q_1]) ++ [q_5]), x ∈ L0 ∨ x ∈ (M ++ [q_5]) ∨ x ∈ ([q_1]) := fun x h => by
    rcases hc x h with h | h | h
    · exact Or.inl h
    · exact Or.inr (Or.inl (List.mem_append_left _ h))
    · rcases List.mem_append.mp (show x ∈ ([q_1]) ++ [q_5] from h) with h | h
      · exact Or.inr (Or.inr h)
      · exact Or.inr (Or.inl (List.mem_append_right _ h))
  refine lv_astore_n (lv' := [(1, .ref q_5), (0, .ref a0)]) hx hb dX7_init_26 rfl hl (by decide) rfl (fun ls hl => ?_)
  refine q_iconst hx hb dX7_init_27 ?_
  refine lv_istore_n (lv' := [(2, .int (iI 0)), (1, .ref q_5), (0, .ref a0)]) hx hb dX7_init_28 rfl hl (by decide) rfl (fun ls hl => ?_)
  have J29 : ∀ (n i : Nat) (y : Int) (ly : -2147483648 ≤ y) (uy : y ≤ 2147483647) (ey : y = (i : Int)) (hi : i ≤ 12) (hn : 12 - i < n) (L M2 : List Nat) (f : Nat → va_E) (hg : GI cy M2 f) (hML : ∀ x ∈ M2, x ∈ L) (hM0 : ∀ x ∈ M, x ∈ M2) (hMc : ∀ x ∈ M2, x ∈ M ∨ x ∉ L0) (hs : ∀ x ∈ L0, x ∈ L) (hc : ∀ x ∈ L, x ∈ L0 ∨ x ∈ M2 ∨ x ∈ [q_1]) (hO : ∀ x ∈ L0, x ≠ a0 → f x = f0 x) (m_a0 : a0 ∈ L) (o_a0 : Ob f a0 5) (m_q_1 : q_1 ∈ L) (o_q_1 : ArR f q_1 cy.2.2.2.1 12) (m_q_5 : q_5 ∈ L) (o_q_5 : Ob f q_5 3) (nm_q_1 : q_1 ∉ M2) (mg_q_5 : q_5 ∈ M2) (w_0 : fR f a0 0 = some q_1) (i_1 : fI f a0 1 = 0) (hfr : ∀ (j : Int) (b : Nat), 0 ≤ j → j < y → aR f q_1 j = some b → b ∉ L0) (hdis : ∀ j k : Int, 0 ≤ j → j < k → k < y → aR f q_1 j ≠ aR f q_1 k) (hrow : ∀ j : Int, 0 ≤ j → j < y → ∃ b, aR f q_1 j = some b ∧ b ∈ M2 ∧ Ob f b 0) (har : HAR L0 L f q_1 y) (H : Heap) (locs : List Loc) (ls : Array Slot) (hw : Wd D A s.heap L f H locs) (hl : lv_has ls 3 [(0, .ref a0), (1, .ref q_5), (2, .int (iI y))]), W p l e ({ frames := 3, cells := 38, slots := 579, locals := 64 } : Room) s m ([.ref a0] : List Value).toArray below meth c H locs (2 + 3 * i) (15 + 47 * i) (MQ below (Qv D (tq cy) L0 f0 s.heap.size (fun (L1 : List Nat) (f1 : Nat → va_E) => PA cy M L0 f0 a0 5 L1 f1 ∧ (∃ rq : Int → Nat, SF f1 a0 rq ∧ (∀ i : Int, 0 ≤ i → i < 12 → rq i ∉ L0) ∧ ARN L0 f1 rq) ∧ fI f1 a0 1 = 0)) ([.ref a0] : List Value).toArray s 38 579 A) (F0 m 29 ls []) := by
    intro n
    induction n with
    | zero => intro i y ly uy ey hi hn; exact absurd hn (Nat.not_lt_zero _)
    | succ n ih =>
      intro i y ly uy ey hi hn L M2 f hg hML hM0 hMc hs hc hO m_a0 o_a0 m_q_1 o_q_1 m_q_5 o_q_5 nm_q_1 mg_q_5 w_0 i_1 hfr hdis hrow har H locs ls hw hl
      refine lv_iload_n hx hb dX7_init_29 rfl (lv_at hl 2 rfl) ?_
      refine lv_aload_n hx hb dX7_init_30 rfl (lv_at hl 0 rfl) ?_
      refine q_getr (ci := 5) (C := RX7) (T := TX7) (N := 2) hx hb hts (fun w h => List.mem_cons_of_mem _ (mfX70 w h)) hown hK hw m_a0 o_a0 rfl 0 (by decide) (hts _ (List.mem_cons_of_mem _ (mr2 _ (List.mem_of_getElem? (i := 3) rfl)))) (fun _ h => h) rfl w_0 dX7_init_31 ?_
      refine q_alenR hx hb hK hw m_q_1 3 o_q_1 rfl dX7_init_34 ?_
      refine q_icmp_ge (tgt := 58) hx hb dX7_init_35 (by decide) ⟨ly, uy⟩ ⟨by decide, by decide⟩ (fun c35 => ?_) (fun c35 => ?_)
      · have hg := hg.add (q := q_1) (fun _ _ o' => absurd o_q_1 o'.notR) (fun _ _ o' => absurd o_q_1 o'.notR) (fun j o' h0 h1 => by obtain ⟨b, q1, q2, q3⟩ := hrow j h0 (by omega); exact ⟨b, q1, List.mem_append_left _ q2, q3⟩) (fun j o' h0 h1 => absurd (o_q_1.uniq o').2 (by decide))
        have mg_q_5 : q_5 ∈ M2 ++ [q_1] := List.mem_append_left _ mg_q_5
        have mg_q_1 : q_1 ∈ M2 ++ [q_1] := List.mem_append_right _ (List.mem_singleton.mpr rfl)
        have hML : ∀ x ∈ M2 ++ [q_1], x ∈ L := fun x h => (List.mem_append.mp h).elim (fun h => hML x h) (fun h => by rw [List.mem_singleton.mp h]; exact m_q_1)
        have hM0 : ∀ x ∈ M, x ∈ M2 ++ [q_1] := fun x h => List.mem_append_left _ (hM0 x h)
        have hMc : ∀ x ∈ M2 ++ [q_1], x ∈ M ∨ x ∉ L0 := fun x h => (List.mem_append.mp h).elim (fun h => hMc x h) (fun h => by rw [List.mem_singleton.mp h]; exact Or.inr nq_q_1)
        have hc : ∀ x ∈ L, x ∈ L0 ∨ x ∈ (M2 ++ [q_1]) ∨ x ∈ ([] : List Nat) := fun x h => by
          rcases hc x h with h | h | h
          · exact Or.inl h
          · exact Or.inr (Or.inl (List.mem_append_left _ h))
          · rcases List.mem_append.mp (show x ∈ ([] : List Nat) ++ [q_1] from h) with h | h
            · exact Or.inr (Or.inr h)
            · exact Or.inr (Or.inl (List.mem_append_right _ h))
        have q_0 : fR f a0 0 = some q_1 ∧ q_1 ∈ (M2 ++ [q_1]) ++ [a0] ∧ _ := ⟨w_0, List.mem_append_left _ mg_q_1, o_q_1⟩
        have hg := hg.addOb o_a0 (fcond_5 (by rw [i_1]; decide)) (rcond_5 q_0)
        exact q_ret_v hx hb hr hlocks hK hAe hw (by show 2 + 3 * i ≤ 38; omega) (by show 15 + 47 * i ≤ 579; omega) dX7_init_58 ⟨⟨(M2 ++ [q_1]) ++ [a0], fun x h => List.mem_append_left _ (hM0 x h), fun x h => (List.mem_append.mp h).elim (fun h => hML x h) (fun h => by rw [List.mem_singleton.mp h]; exact m_a0), fun x h => (List.mem_append.mp h).elim (fun h => (hMc x h).elim Or.inl (fun h => Or.inr (Or.inr h))) (fun h => Or.inr (Or.inl (List.mem_singleton.mp h))), List.mem_append_right _ (List.mem_singleton.mpr rfl), hs, fun x h => (hc x h).elim Or.inl (fun h => h.elim (fun h => Or.inr (List.mem_append_left _ h)) (fun h => absurd h List.not_mem_nil)), hg, hO, o_a0⟩, har.made w_0 (by omega) (SF.made o_a0 w_0 (fun j h0 h1 => by obtain ⟨b, q1, q2, q3⟩ := hrow j h0 (by omega); exact ⟨b, q1, q3⟩) (fun j k h0 h1 h2 => hdis j k h0 h1 (by omega)) (fun j b h0 h1 e => hfr j b h0 (by omega) e)), i_1⟩
      · refine lv_aload_n hx hb dX7_init_38 rfl (lv_at hl 0 rfl) ?_
        refine q_getr (ci := 5) (C := RX7) (T := TX7) (N := 2) hx hb hts (fun w h => List.mem_cons_of_mem _ (mfX70 w h)) hown hK hw m_a0 o_a0 rfl 0 (by decide) (hts _ (List.mem_cons_of_mem _ (mr2 _ (List.mem_of_getElem? (i := 3) rfl)))) (fun _ h => h) rfl w_0 dX7_init_39 ?_
        refine lv_iload_n hx hb dX7_init_42 rfl (lv_at hl 2 rfl) ?_
        refine q_new (ci := 0) (C := RX0) (T := TX0) (N := 15) (fs := [.int 0, .int 0, .int 0, .null, .int 0, .int 0, .int 0, .int 0, .int 0, .int 0, .int 0, .null, .null, .int 0, .int 0]) hx hb hts (fun w h => List.mem_cons_of_mem _ (mfX00 w h)) tyX0 tyX0_ok hown (hts _ (List.mem_cons_of_mem _ (mr2 _ (List.mem_of_getElem? (i := 2) rfl)))) (hts _ (List.mem_cons_of_mem _ (mr2 _ (List.mem_of_getElem? (i := 8) rfl)))) (hts _ (List.mem_cons_of_mem _ (mr2 _ (List.mem_of_getElem? (i := 9) rfl)))) hK hw hA rfl (by decide) (by show 2 + 3 * i + 1 ≤ 38; omega) (by show 15 + 47 * i + 15 ≤ 579; omega) dX7_init_43 (fun q_9 H n_q_9 hw => ?_)
        obtain ⟨f_10, ef_10⟩ : ∃ g : Nat → va_E, g = va_up f q_9 (.inr (0, [.int 0, .int 0, .int 0, .null, .int 0, .int 0, .int 0, .int 0, .int 0, .int 0, .int 0, .null, .null, .int 0, .int 0])) := ⟨_, rfl⟩
        rw [← ef_10] at hw
        have hq : ∀ x ∈ L, f_10 x = f x := fun x h => by rw [ef_10]; exact va_up_ne _ _ (fun z => n_q_9 (z ▸ h))
        have o_a0 := Ob_of (hq _ m_a0) o_a0
        have o_q_1 := ArR_of (hq _ m_q_1) o_q_1
        have o_q_5 := Ob_of (hq _ m_q_5) o_q_5
        have w_0 := (fR_of (k := 0) (hq _ m_a0)).trans w_0
        have i_1 := (fI_of (k := 1) (hq _ m_a0)).trans i_1
        have hnew_q_9 : ∀ j : Int, 0 ≤ j → j < y → aR f_10 q_1 j ≠ some q_9 := fun j h0 h1 e => by obtain ⟨b, q1, q2, q3⟩ := hrow j h0 h1; exact n_q_9 (by rw [← Option.some.inj (q1.symm.trans ((aR_of (hq _ m_q_1)).symm.trans e))]; exact hML b q2)
        have hdis : ∀ j k : Int, 0 ≤ j → j < k → k < y → aR f_10 q_1 j ≠ aR f_10 q_1 k := fun j k h0 h1 h2 => by rw [aR_of (hq _ m_q_1), aR_of (hq _ m_q_1)]; exact hdis j k h0 h1 h2
        have hfr : ∀ (j : Int) (b : Nat), 0 ≤ j → j < y → aR f_10 q_1 j = some b → b ∉ L0 := fun j b h0 h1 e => hfr j b h0 h1 ((aR_of (hq _ m_q_1)).symm.trans e)
        have har := har.off (g := f_10) (L' := L ++ [q_9]) hrow (hq _ m_q_1) (fun b hb => hq b (hML b hb)) (fun x h => List.mem_append_left _ h)
        have hrow : ∀ j : Int, 0 ≤ j → j < y → ∃ b, aR f_10 q_1 j = some b ∧ b ∈ M2 ∧ Ob f_10 b 0 := fun j h0 h1 => by obtain ⟨b, q1, q2, q3⟩ := hrow j h0 h1; exact ⟨b, (aR_of (hq _ m_q_1)).trans q1, q2, Ob_of (hq b (hML b q2)) q3⟩
        have hO : ∀ x ∈ L0, x ≠ a0 → f_10 x = f0 x := fun x m h => (hq x (hs x m)).trans (hO x m h)
        have hg := hg.off (fun x h => hq x (hML x h))
        have ne_a0 : a0 ≠ q_9 := fun z => n_q_9 (z ▸ m_a0)
        have m_a0 : a0 ∈ L ++ [q_9] := List.mem_append_left _ m_a0
        have ne_q_1 : q_1 ≠ q_9 := fun z => n_q_9 (z ▸ m_q_1)
        have m_q_1 : q_1 ∈ L ++ [q_9] := List.mem_append_left _ m_q_1
        have ne_q_5 : q_5 ≠ q_9 := fun z => n_q_9 (z ▸ m_q_5)
        have m_q_5 : q_5 ∈ L ++ [q_9] := List.mem_append_left _ m_q_5
        have m_q_9 : q_9 ∈ L ++ [q_9] := List.mem_append_right _ (List.mem_singleton.mpr rfl)
        have nq_q_9 : q_9 ∉ L0 := fun z => n_q_9 (hs _ z)
        have nm_q_9 : q_9 ∉ M2 := fun z => n_q_9 (hML _ z)
        have hs : ∀ x ∈ L0, x ∈ L ++ [q_9] := fun x h => List.mem_append_left _ (hs x h)
        have o_q_9 : Ob f_10 q_9 0 := by rw [ef_10]; exact ⟨_, va_up_self _ _ _, rfl⟩
        have hML : ∀ x ∈ M2, x ∈ L ++ [q_9] := fun x h => List.mem_append_left _ (hML x h)
        have hc : ∀ x ∈ L ++ [q_9], x ∈ L0 ∨ x ∈ M2 ∨ x ∈ ([q_1, q_9]) := fun x h => (List.mem_append.mp h).elim (fun h => (hc x h).elim Or.inl (fun h => h.elim (fun h => Or.inr (Or.inl h)) (fun h => Or.inr (Or.inr (List.mem_append_left [q_9] h))))) (fun h => Or.inr (Or.inr (List.mem_append_right [q_1] h)))
        refine lv_dup hx hb dX7_init_46 rfl ?_
        refine lv_aload_n hx hb dX7_init_47 rfl (lv_at hl 1 rfl) ?_
        refine q_call_v hA hK hw (va_runI (As := [.ref q_5]) (rest := [.ref q_9, .int (iI y), .ref q_1]) ⟨hx, hb, hml, hown, hts⟩ (c_X0_init_o zo l D cy (L ++ [q_9]) f_10 q_9 q_5 m_q_9 o_q_9 m_q_5 (Or.inr (Or.inr (Or.inl o_q_5))) M2 hML hg nm_q_9 mg_q_5 (by rw [ef_10, fI_up rfl]; decide) _) (cwI 1 hts (gT (inC (mr2 _ (List.mem_of_getElem? (i := 23) rfl)))) rfl rfl rfl (hts _ (List.mem_cons_of_mem _ (mr2 _ (List.mem_of_getElem? (i := 9) rfl)))) (hts _ (List.mem_cons_of_mem _ (mr2 _ (List.mem_of_getElem? (i := 21) rfl)))) (hts _ (List.mem_cons_of_mem _ (mr2 _ (List.mem_of_getElem? (i := 22) rfl)))) rfl (by decide +kernel) ⟨Nat.le_of_ble_eq_true rfl, Nat.le_of_ble_eq_true rfl⟩) (Wd.preS zo hA hZ hw hK) rfl rfl hl.1 rfl (lv_room (Nat.le_of_ble_eq_true rfl)) dX7_init_48 ⟨(by show 2 + 3 * i + 1 + 2 ≤ 38; omega), (by show 15 + 47 * i + 15 + 32 ≤ 579; omega)⟩) (fun L_13 f_12 H locs ex_11 hw => ?_)
        obtain ⟨⟨M_14, p1, p2, p3, mg_q_9, p5, p6, hg, hq, o_q_9⟩, fk, ft, fkt⟩ := ex_11
        have har := har.off (g := f_12) (L' := L ++ [q_9]) hrow (hq _ m_q_1 ne_q_1) (fun b hb => hq b (hML b hb) (fun z => nm_q_9 (z ▸ hb))) (fun x h => h)
        have ao9 : AO cy f_12 q_9 ∧ KA f_12 q_9 ∈ M_14 ∧ TA f_12 q_9 ∈ M_14 := AO.in hg mg_q_9 o_q_9
        have o_q_1_9 := ArR_of (hq _ m_q_1 ne_q_1) o_q_1
        have har9 : ∀ {g : Nat → va_E} {y' : Int}, g = rU f_12 q_1 y (some q_9) → y' = y + 1 → HAR L0 L_13 g q_1 y' := fun e9 y9 => har.add (by omega) o_q_1_9 e9 hs fk ft fkt (p2 _ ao9.2.1) (p2 _ ao9.2.2) p5 y9
        have o_a0 := Ob_of (hq _ m_a0 ne_a0) o_a0
        have o_q_1 := ArR_of (hq _ m_q_1 ne_q_1) o_q_1
        have o_q_5 := Ob_of (hq _ m_q_5 ne_q_5) o_q_5
        have w_0 := (fR_of (k := 0) (hq _ m_a0 ne_a0)).trans w_0
        have i_1 := (fI_of (k := 1) (hq _ m_a0 ne_a0)).trans i_1
        have hO : ∀ x ∈ L0, x ≠ a0 → f_12 x = f0 x := fun x m h => (hq x (hs x m) (fun z => nq_q_9 (z ▸ m))).trans (hO x m h)
        have hnew_q_9 : ∀ j : Int, 0 ≤ j → j < y → aR f_12 q_1 j ≠ some q_9 := fun j h0 h1 => by rw [aR_of (hq _ m_q_1 ne_q_1)]; exact hnew_q_9 j h0 h1
        have hdis : ∀ j k : Int, 0 ≤ j → j < k → k < y → aR f_12 q_1 j ≠ aR f_12 q_1 k := fun j k h0 h1 h2 => by rw [aR_of (hq _ m_q_1 ne_q_1), aR_of (hq _ m_q_1 ne_q_1)]; exact hdis j k h0 h1 h2
        have hfr : ∀ (j : Int) (b : Nat), 0 ≤ j → j < y → aR f_12 q_1 j = some b → b ∉ L0 := fun j b h0 h1 e => hfr j b h0 h1 ((aR_of (hq _ m_q_1 ne_q_1)).symm.trans e)
        have hrow : ∀ j : Int, 0 ≤ j → j < y → ∃ b, aR f_12 q_1 j = some b ∧ b ∈ M_14 ∧ Ob f_12 b 0 := fun j h0 h1 => by obtain ⟨b, q1, q2, q3⟩ := hrow j h0 h1; exact ⟨b, (aR_of (hq _ m_q_1 ne_q_1)).trans q1, p1 _ q2, Ob_of (hq b (hML b q2) (fun z => nm_q_9 (z ▸ q2))) q3⟩
        have mg_q_5 := p1 _ mg_q_5
        have nm_q_1 : q_1 ∉ M_14 := fun h => (p3 _ h).elim nm_q_1 (fun h => h.elim ne_q_1 (fun h => h m_q_1))
        have hMc : ∀ x ∈ M_14, x ∈ M ∨ x ∉ L0 := fun x h => (p3 x h).elim (fun h => hMc x h) (fun h => h.elim (fun h => Or.inr (by rw [h]; exact nq_q_9)) (fun h => Or.inr (fun z => h (hs x z))))
        have m_a0 := p5 _ m_a0
        have m_q_1 := p5 _ m_q_1
        have m_q_5 := p5 _ m_q_5
        have m_q_9 := p5 _ m_q_9
        have hML := p2
        have hM0 : ∀ x ∈ M, x ∈ M_14 := fun x h => p1 x (hM0 x h)
        have hs : ∀ x ∈ L0, x ∈ L_13 := fun x h => p5 x (hs x h)
        have hc : ∀ x ∈ L_13, x ∈ L0 ∨ x ∈ M_14 ∨ x ∈ ([q_1]) := fun x h => by
          rcases p6 x h with h | h
          · rcases hc x h with h | h | h
            · exact Or.inl h
            · exact Or.inr (Or.inl (p1 _ h))
            · rcases List.mem_append.mp (show x ∈ ([q_1]) ++ [q_9] from h) with h | h
              · exact Or.inr (Or.inr h)
              · exact Or.inr (Or.inl (by rw [List.mem_singleton.mp h]; exact mg_q_9))
          · exact Or.inr (Or.inl h)
        refine q_aast hx hb hK hw m_q_1 3 o_q_1 rfl m_q_9 o_q_9 rfl ⟨ly, uy⟩ (by omega) (by omega) dX7_init_51 (fun H locs hw => ?_)
        obtain ⟨f_15, ef_15⟩ : ∃ g : Nat → va_E, g = rU f_12 q_1 y (some q_9) := ⟨_, rfl⟩
        rw [← ef_15] at hw
        have oo := o_q_1
        have hq : ∀ x : Nat, x ≠ q_1 → f_15 x = f_12 x := fun x h => by rw [ef_15]; exact rU_ne h
        have hX : Sh f_12 f_15 := by rw [ef_15]; exact Sh_rU oo
        have hg := hg.off (fun x h => hq x (fun z => nm_q_1 (z ▸ h)))
        have hO : ∀ x ∈ L0, x ≠ a0 → f_15 x = f0 x := fun x m h => (hq x (fun z => nq_q_1 (z ▸ m))).trans (hO x m h)
        have nz_a0 : a0 ≠ q_1 := fun z => nq_q_1 (z ▸ ha0)
        have w_0 := (fR_of (k := 0) (hq _ nz_a0)).trans w_0
        have i_1 := (fI_of (k := 1) (hq _ nz_a0)).trans i_1
        have hrow : ∀ j : Int, 0 ≤ j → j < y + 1 → ∃ b, aR f_15 q_1 j = some b ∧ b ∈ M_14 ∧ Ob f_15 b 0 := by
          intro j h0 h1
          by_cases ej : j = y
          · exact ⟨q_9, by rw [ef_15, ej]; exact aR_rU_self oo, mg_q_9, hX.1 _ _ o_q_9⟩
          · obtain ⟨b, q1, q2, q3⟩ := hrow j h0 (by omega)
            exact ⟨b, by rw [ef_15]; exact (aR_rU_nj oo (by omega) (by omega) ej).trans q1, q2, hX.1 _ _ q3⟩
        have hfr : ∀ (j : Int) (b : Nat), 0 ≤ j → j < y + 1 → aR f_15 q_1 j = some b → b ∉ L0 := by
          intro j b h0 h1 e
          by_cases ej : j = y
          · rw [ef_15, ej, aR_rU_self oo] at e; rw [← Option.some.inj e]; exact nq_q_9
          · rw [ef_15, aR_rU_nj oo (by omega) (by omega) ej] at e; exact hfr j b h0 (by omega) e
        have hdis : ∀ j k : Int, 0 ≤ j → j < k → k < y + 1 → aR f_15 q_1 j ≠ aR f_15 q_1 k := by
          intro j k h0 h1 h2
          rw [ef_15, aR_rU_nj oo (by omega) (by omega) (show j ≠ y by omega)]
          by_cases ek : k = y
          · rw [ek, aR_rU_self oo]; exact hnew_q_9 j h0 (by omega)
          · rw [aR_rU_nj oo (by omega) (by omega) ek]; exact hdis j k h0 h1 (by omega)
        have o_a0 := hX.1 _ _ o_a0
        have o_q_1 := hX.2.2 _ _ _ o_q_1
        have o_q_5 := hX.1 _ _ o_q_5
        have o_q_9 := hX.1 _ _ o_q_9
        obtain ⟨x_16, lx_16, ux_16, hx_16, ex_16⟩ := q_inc y (1)
        try (replace ex_16 : x_16 = y + (1) := by omega)
        refine lv_iinc (v := iI x_16) (lv' := [(2, .int (iI x_16)), (0, .ref a0), (1, .ref q_5)]) hx hb dX7_init_52 hl (k := 2) rfl hx_16 (by decide) rfl (fun ls hl => ?_)
        refine lv_goto (tgt := 29) hx hb dX7_init_55 (by decide) ?_
        have hW := ih (i + 1) x_16 lx_16 ux_16 (by omega) (by omega) (by omega) L_13 M_14 f_15 hg hML hM0 hMc hs hc hO m_a0 o_a0 m_q_1 o_q_1 m_q_5 o_q_5 nm_q_1 mg_q_5 w_0 i_1 (fun j b h0 h1 e => hfr j b h0 (by omega) e) (fun j k h0 h1 h2 => hdis j k h0 h1 (by omega)) (fun j h0 h1 => hrow j h0 (by omega)) (har9 ef_15 (by omega)) _ _ _ hw (lv_sub hl [1, 2, 0] rfl)
        exact (show 2 + 3 * i + 1 + 2 = 2 + 3 * (i + 1) by omega) ▸ (show 15 + 47 * i + 15 + 32 = 15 + 47 * (i + 1) by omega) ▸ hW
  have hrow : ∀ j : Int, 0 ≤ j → j < 0 → ∃ b, aR f_8 q_1 j = some b ∧ b ∈ (M ++ [q_5]) ∧ Ob f_8 b 0 := fun j h0 h1 => by omega
  have hfr : ∀ (j : Int) (b : Nat), 0 ≤ j → j < 0 → aR f_8 q_1 j = some b → b ∉ L0 := fun j b h0 h1 e => by omega
  have hdis : ∀ j k : Int, 0 ≤ j → j < k → k < 0 → aR f_8 q_1 j ≠ aR f_8 q_1 k := fun j k h0 h1 h2 => by omega
  exact J29 13 0 0 (by decide) (by decide) rfl (by decide) (by decide) ((L0 ++ [q_1]) ++ [q_5]) (M ++ [q_5]) f_8 hg hML hM0 hMc hs hc hO m_a0 o_a0 m_q_1 o_q_1 m_q_5 o_q_5 nm_q_1 mg_q_5 w_0 i_1 hfr hdis hrow (fun j b h0 h1 => by omega) _ _ _ hw (lv_sub hl [2, 1, 0] rfl)
set_option maxHeartbeats 4000000 in
set_option maxRecDepth 100000 in
theorem c_X9_init_o {Z : Zt} (zo : Zok Z) (l : Launch) (D : va_G) (cy : Cy) (L0 : List Nat) (f0 : Nat → va_E) (a0 : Nat) (m_a0 : a0 ∈ L0) (o_a0 : Ob f0 a0 7) (M : List Nat) (hM : ∀ x ∈ M, x ∈ L0) (hg : GI cy M f0) (hn0 : a0 ∉ M) : Cv Z l yX9_init (Cond.code yX9_init cX9_init 1 none :: TB) ({ frames := 4, cells := 41, slots := 751, locals := 86 } : Room) 41 751 D (tq cy) [.ref a0] L0 f0 (fun (L1 : List Nat) (f1 : Nat → va_E) => PA cy M L0 f0 a0 7 L1 f1 ∧ fI f1 a0 1 = 0 ∧ (∃ tp : Nat, fR f1 a0 0 = some tp ∧ ∀ j : Int, aI f1 tp j = 0) ∧ ∃ (rq : Int → Nat) (sh im : Nat), fR f1 a0 2 = some sh ∧ SF f1 sh rq ∧ ARS f1 rq ∧ fI f1 sh 1 = 0 ∧ fR f1 a0 3 = some im ∧ ∀ j : Int, aR f1 im j = none) := by
  refine Cv.enter (cc := cX9_init) (n := 1) rfl (plainFor_of_name (by decide)) (Nat.le_of_ble_eq_true rfl) ?_
  intro p e s m below meth c ls A hx hb hr hts hown hlocks hnm hml hK hA hAe hw hZ hl
  have hown : s.vm.findClass RX9 = some m.cls := hown
  have hl : lv_has ls 1 [(0, .ref a0)] := hl
  have hN : ZN s := (zo.2.2.2.2 _ _ _ hZ).2
  have ha0 := m_a0
  have hML := hM
  have hM0 : ∀ x ∈ M, x ∈ M := fun _ h => h
  have hMc : ∀ x ∈ M, x ∈ M ∨ x ∉ L0 := fun _ h => Or.inl h
  have hs : ∀ x ∈ L0, x ∈ L0 := fun _ h => h
  have hc : ∀ x ∈ L0, x ∈ L0 ∨ x ∈ M ∨ x ∈ ([] : List Nat) := fun _ h => Or.inl h
  have hO : ∀ x ∈ L0, x ≠ a0 → f0 x = f0 x := fun _ _ _ => rfl
  refine lv_aload_n hx hb dX9_init_0 rfl (lv_at hl 0 rfl) ?_
  refine W.objInit hx hb hown (hts _ (List.mem_cons_of_mem _ (mr1 _ (List.mem_of_getElem? (i := 11) rfl)))) (hts _ (List.mem_cons_of_mem _ (mr1 _ (List.mem_of_getElem? (i := 12) rfl)))) (hts _ (List.mem_cons_of_mem _ (mr1 _ (List.mem_of_getElem? (i := 13) rfl)))) rfl (by rw [hml]; exact hl.1) rfl dX9_init_1 (Nat.le_of_ble_eq_true rfl) (Nat.le_of_ble_eq_true rfl) ?_
  refine W.eq (g2 := F0 m 4 ls []) rfl ?_
  refine lv_aload_n hx hb dX9_init_4 rfl (lv_at hl 0 rfl) ?_
  refine q_sipush hx hb dX9_init_5 rfl ?_
  refine q_newI (n := 168) (cA := cy.1) hx hb (hts _ (List.mem_cons_of_mem _ (mr1 _ (List.mem_of_getElem? (i := 14) rfl)))) rfl rfl 0 rfl hK hw hA (by decide) (by decide) (by show 0 + 1 ≤ 41; omega) (by show 0 + 168 ≤ 751; omega) dX9_init_8 (fun q_1 H n_q_1 hw => ?_)
  obtain ⟨f_2, ef_2⟩ : ∃ g : Nat → va_E, g = va_up f0 q_1 (.inl (cy.1, 168, .inl (fun _ => 0))) := ⟨_, rfl⟩
  rw [← ef_2] at hw
  have hq : ∀ x ∈ L0, f_2 x = f0 x := fun x h => by rw [ef_2]; exact va_up_ne _ _ (fun z => n_q_1 (z ▸ h))
  have o_a0 := Ob_of (hq _ m_a0) o_a0
  have hO : ∀ x ∈ L0, x ≠ a0 → f_2 x = f0 x := fun x m h => (hq x (hs x m)).trans (hO x m h)
  have hg := hg.off (fun x h => hq x (hML x h))
  have ne_a0 : a0 ≠ q_1 := fun z => n_q_1 (z ▸ m_a0)
  have m_a0 : a0 ∈ L0 ++ [q_1] := List.mem_append_left _ m_a0
  have m_q_1 : q_1 ∈ L0 ++ [q_1] := List.mem_append_right _ (List.mem_singleton.mpr rfl)
  have nq_q_1 : q_1 ∉ L0 := fun z => n_q_1 (hs _ z)
  have nm_q_1 : q_1 ∉ M := fun z => n_q_1 (hML _ z)
  have hs : ∀ x ∈ L0, x ∈ L0 ++ [q_1] := fun x h => List.mem_append_left _ (hs x h)
  have o_q_1 : ArI f_2 q_1 cy.1 168 := by rw [ef_2]; exact ⟨_, va_up_self _ _ _⟩
  have zt : ∀ j : Int, aI f_2 q_1 j = 0 := fun j => by rw [ef_2]; exact aI_new _ _ _ _ _
  have hg := hg.addI o_q_1
  have mg_q_1 : q_1 ∈ M ++ [q_1] := List.mem_append_right _ (List.mem_singleton.mpr rfl)
  have hML : ∀ x ∈ M ++ [q_1], x ∈ L0 ++ [q_1] := fun x h => (List.mem_append.mp h).elim (fun h => List.mem_append_left _ (hML x h)) (fun h => by rw [List.mem_singleton.mp h]; exact m_q_1)
  have hM0 : ∀ x ∈ M, x ∈ M ++ [q_1] := fun x h => List.mem_append_left _ (hM0 x h)
  have hMc : ∀ x ∈ M ++ [q_1], x ∈ M ∨ x ∉ L0 := fun x h => (List.mem_append.mp h).elim (fun h => hMc x h) (fun h => by rw [List.mem_singleton.mp h]; exact Or.inr nq_q_1)
  have hc : ∀ x ∈ L0 ++ [q_1], x ∈ L0 ∨ x ∈ (M ++ [q_1]) ∨ x ∈ ([] : List Nat) := fun x h => (List.mem_append.mp h).elim (fun h => (hc x h).elim Or.inl (fun h => h.elim (fun h => Or.inr (Or.inl (List.mem_append_left _ h))) (fun h => Or.inr (Or.inr h)))) (fun h => Or.inr (Or.inl (List.mem_append_right _ h)))
  refine q_putFr (ci := 7) (C := RX9) (T := TX9) (N := 4) hx hb hts (fun w h => List.mem_cons_of_mem _ (mfX90 w h)) hown hK hw m_a0 o_a0 rfl 0 (by decide) (hts _ (List.mem_cons_of_mem _ (mr1 _ (List.mem_of_getElem? (i := 15) rfl)))) (fun _ h => h) tyX9 tyX9_ok nmX9 rfl hnm rfl (ty := tyX9 0) (by decide +kernel) rfl rfl rfl dX9_init_10 (fun H locs hw => ?_)
  obtain ⟨f_3, ef_3⟩ : ∃ g : Nat → va_E, g = pU f_2 a0 0 (.ref q_1) := ⟨_, rfl⟩
  rw [← ef_3] at hw
  have oo := o_a0
  have hq : ∀ x : Nat, x ≠ a0 → f_3 x = f_2 x := fun x h => by rw [ef_3]; exact pU_ne h
  have hX : Sh f_2 f_3 := by rw [ef_3]; exact Sh_pU oo rfl rfl
  have o_a0 := hX.1 _ _ o_a0
  have o_q_1 := hX.2.1 _ _ _ o_q_1
  have zt := fun j : Int => (aI_ofc (j := j) (hq q_1 (fun z => nq_q_1 (z ▸ ha0)))).trans (zt j)
  have hg := hg.off (fun x h => hq x (fun z => (hMc x h).elim (fun h => hn0 (z ▸ h)) (fun h => h (z ▸ ha0))))
  have hO : ∀ x ∈ L0, x ≠ a0 → f_3 x = f0 x := fun x m h => (hq x h).trans (hO x m h)
  have w_0 : fR f_3 a0 0 = some q_1 := by rw [ef_3]; exact fR_pU_self oo rfl
  refine lv_aload_n hx hb dX9_init_13 rfl (lv_at hl 0 rfl) ?_
  refine q_iconst hx hb dX9_init_14 ?_
  refine q_puti (ci := 7) (C := RX9) (T := TX9) (N := 4) hx hb hts (fun w h => List.mem_cons_of_mem _ (mfX90 w h)) hown hK hw m_a0 o_a0 rfl 1 (by decide) (hts _ (List.mem_cons_of_mem _ (mr1 _ (List.mem_of_getElem? (i := 16) rfl)))) (fun _ h => h) tyX9 tyX9_ok nmX9 rfl (ty := .int) (by decide +kernel) rfl rfl dX9_init_15 (fun H locs hw => ?_)
  obtain ⟨f_4, ef_4⟩ : ∃ g : Nat → va_E, g = pU f_3 a0 1 (.int (iI 0)) := ⟨_, rfl⟩
  rw [← ef_4] at hw
  have oo := o_a0
  have hq : ∀ x : Nat, x ≠ a0 → f_4 x = f_3 x := fun x h => by rw [ef_4]; exact pU_ne h
  have hX : Sh f_3 f_4 := by rw [ef_4]; exact Sh_pU oo rfl rfl
  have o_a0 := hX.1 _ _ o_a0
  have o_q_1 := hX.2.1 _ _ _ o_q_1
  have zt := fun j : Int => (aI_ofc (j := j) (hq q_1 (fun z => nq_q_1 (z ▸ ha0)))).trans (zt j)
  have hg := hg.off (fun x h => hq x (fun z => (hMc x h).elim (fun h => hn0 (z ▸ h)) (fun h => h (z ▸ ha0))))
  have hO : ∀ x ∈ L0, x ≠ a0 → f_4 x = f0 x := fun x m h => (hq x h).trans (hO x m h)
  have w_0 : fR f_4 a0 0 = some q_1 := by rw [ef_4, fR_pU (Or.inr (by decide))]; exact w_0
  have i_1 : fI f_4 a0 1 = 0 := by rw [ef_4]; exact fI_pU_self oo rfl ⟨by decide, by decide⟩
  refine lv_aload_n hx hb dX9_init_18 rfl (lv_at hl 0 rfl) ?_
  refine q_new (ci := 5) (C := RX7) (T := TX7) (N := 2) (fs := [.null, .int 0]) hx hb hts (fun w h => List.mem_cons_of_mem _ (mfX70 w h)) tyX7 tyX7_ok hown (hts _ (List.mem_cons_of_mem _ (mr1 _ (List.mem_of_getElem? (i := 17) rfl)))) (hts _ (List.mem_cons_of_mem _ (mr1 _ (List.mem_of_getElem? (i := 18) rfl)))) (hts _ (List.mem_cons_of_mem _ (mr1 _ (List.mem_of_getElem? (i := 19) rfl)))) hK hw hA rfl (by decide) (by show 0 + 1 + 1 ≤ 41; omega) (by show 0 + 168 + 2 ≤ 751; omega) dX9_init_19 (fun q_5 H n_q_5 hw => ?_)
  obtain ⟨f_6, ef_6⟩ : ∃ g : Nat → va_E, g = va_up f_4 q_5 (.inr (5, [.null, .int 0])) := ⟨_, rfl⟩
  rw [← ef_6] at hw
  have hq : ∀ x ∈ (L0 ++ [q_1]), f_6 x = f_4 x := fun x h => by rw [ef_6]; exact va_up_ne _ _ (fun z => n_q_5 (z ▸ h))
  have o_a0 := Ob_of (hq _ m_a0) o_a0
  have o_q_1 := ArI_of (hq _ m_q_1) o_q_1
  have zt := fun j : Int => (aI_ofc (j := j) (hq _ m_q_1)).trans (zt j)
  have w_0 := (fR_of (k := 0) (hq _ m_a0)).trans w_0
  have i_1 := (fI_of (k := 1) (hq _ m_a0)).trans i_1
  have hO : ∀ x ∈ L0, x ≠ a0 → f_6 x = f0 x := fun x m h => (hq x (hs x m)).trans (hO x m h)
  have hg := hg.off (fun x h => hq x (hML x h))
  have ne_a0 : a0 ≠ q_5 := fun z => n_q_5 (z ▸ m_a0)
  have m_a0 : a0 ∈ (L0 ++ [q_1]) ++ [q_5] := List.mem_append_left _ m_a0
  have ne_q_1 : q_1 ≠ q_5 := fun z => n_q_5 (z ▸ m_q_1)
  have m_q_1 : q_1 ∈ (L0 ++ [q_1]) ++ [q_5] := List.mem_append_left _ m_q_1
  have m_q_5 : q_5 ∈ (L0 ++ [q_1]) ++ [q_5] := List.mem_append_right _ (List.mem_singleton.mpr rfl)
  have nq_q_5 : q_5 ∉ L0 := fun z => n_q_5 (hs _ z)
  have nm_q_5 : q_5 ∉ (M ++ [q_1]) := fun z => n_q_5 (hML _ z)
  have hs : ∀ x ∈ L0, x ∈ (L0 ++ [q_1]) ++ [q_5] := fun x h => List.mem_append_left _ (hs x h)
  have o_q_5 : Ob f_6 q_5 5 := by rw [ef_6]; exact ⟨_, va_up_self _ _ _, rfl⟩
  have hML : ∀ x ∈ (M ++ [q_1]), x ∈ (L0 ++ [q_1]) ++ [q_5] := fun x h => List.mem_append_left _ (hML x h)
  have hc : ∀ x ∈ (L0 ++ [q_1]) ++ [q_5], x ∈ L0 ∨ x ∈ (M ++ [q_1]) ∨ x ∈ ([q_5]) := fun x h => (List.mem_append.mp h).elim (fun h => (hc x h).elim Or.inl (fun h => h.elim (fun h => Or.inr (Or.inl h)) (fun h => Or.inr (Or.inr (List.mem_append_left [q_5] h))))) (fun h => Or.inr (Or.inr (List.mem_append_right [] h)))
  refine lv_dup hx hb dX9_init_22 rfl ?_
  refine q_call_v hA hK hw (va_runI (As := []) (rest := [.ref q_5, .ref a0]) ⟨hx, hb, hml, hown, hts⟩ (c_X7_init_o zo l D cy ((L0 ++ [q_1]) ++ [q_5]) f_6 q_5 m_q_5 o_q_5 (M ++ [q_1]) hML hg nm_q_5 _) (cwI 0 hts (gT (inC (mr2 _ (List.mem_of_getElem? (i := 0) rfl)))) rfl rfl rfl (hts _ (List.mem_cons_of_mem _ (mr1 _ (List.mem_of_getElem? (i := 19) rfl)))) (hts _ (List.mem_cons_of_mem _ (mr1 _ (List.mem_of_getElem? (i := 22) rfl)))) (hts _ (List.mem_cons_of_mem _ (mr1 _ (List.mem_of_getElem? (i := 23) rfl)))) rfl (by decide +kernel) ⟨Nat.le_of_ble_eq_true rfl, Nat.le_of_ble_eq_true rfl⟩) (Wd.preS zo hA hZ hw hK) rfl rfl hl.1 rfl (lv_room (Nat.le_of_ble_eq_true rfl)) dX9_init_23 ⟨(by show 0 + 1 + 1 + 38 ≤ 41; omega), (by show 0 + 168 + 2 + 579 ≤ 751; omega)⟩) (fun L_9 f_8 H locs ex_7 hw => ?_)
  obtain ⟨⟨M_10, p1, p2, p3, mg_q_5, p5, p6, hg, hq, o_q_5⟩, ⟨rq, sf, fq, an⟩, z1⟩ := ex_7
  have an := an.1
  have o_a0 := Ob_of (hq _ m_a0 ne_a0) o_a0
  have o_q_1 := ArI_of (hq _ m_q_1 ne_q_1) o_q_1
  have zt := fun j : Int => (aI_ofc (j := j) (hq _ m_q_1 ne_q_1)).trans (zt j)
  have w_0 := (fR_of (k := 0) (hq _ m_a0 ne_a0)).trans w_0
  have i_1 := (fI_of (k := 1) (hq _ m_a0 ne_a0)).trans i_1
  have hO : ∀ x ∈ L0, x ≠ a0 → f_8 x = f0 x := fun x m h => (hq x (hs x m) (fun z => nq_q_5 (z ▸ m))).trans (hO x m h)
  have mg_q_1 := p1 _ mg_q_1
  have hMc : ∀ x ∈ M_10, x ∈ M ∨ x ∉ L0 := fun x h => (p3 x h).elim (fun h => hMc x h) (fun h => h.elim (fun h => Or.inr (by rw [h]; exact nq_q_5)) (fun h => Or.inr (fun z => h (hs x z))))
  have m_a0 := p5 _ m_a0
  have m_q_1 := p5 _ m_q_1
  have m_q_5 := p5 _ m_q_5
  have hML := p2
  have hM0 : ∀ x ∈ M, x ∈ M_10 := fun x h => p1 x (hM0 x h)
  have hs : ∀ x ∈ L0, x ∈ L_9 := fun x h => p5 x (hs x h)
  have hc : ∀ x ∈ L_9, x ∈ L0 ∨ x ∈ M_10 ∨ x ∈ ([] : List Nat) := fun x h => by
    rcases p6 x h with h | h
    · rcases hc x h with h | h | h
      · exact Or.inl h
      · exact Or.inr (Or.inl (p1 _ h))
      · rcases List.mem_append.mp (show x ∈ ([] : List Nat) ++ [q_5] from h) with h | h
        · exact Or.inr (Or.inr h)
        · exact Or.inr (Or.inl (by rw [List.mem_singleton.mp h]; exact mg_q_5))
    · exact Or.inr (Or.inl h)
  refine q_putFr (ci := 7) (C := RX9) (T := TX9) (N := 4) hx hb hts (fun w h => List.mem_cons_of_mem _ (mfX90 w h)) hown hK hw m_a0 o_a0 rfl 2 (by decide) (hts _ (List.mem_cons_of_mem _ (mr1 _ (List.mem_of_getElem? (i := 20) rfl)))) (fun _ h => h) tyX9 tyX9_ok nmX9 rfl hnm rfl (ty := tyX9 2) (by decide +kernel) rfl rfl rfl dX9_init_26 (fun H locs hw => ?_)
  obtain ⟨f_11, ef_11⟩ : ∃ g : Nat → va_E, g = pU f_8 a0 2 (.ref q_5) := ⟨_, rfl⟩
  rw [← ef_11] at hw
  have oo := o_a0
  have hq : ∀ x : Nat, x ≠ a0 → f_11 x = f_8 x := fun x h => by rw [ef_11]; exact pU_ne h
  have hX : Sh f_8 f_11 := by rw [ef_11]; exact Sh_pU oo rfl rfl
  have o_a0 := hX.1 _ _ o_a0
  have o_q_1 := hX.2.1 _ _ _ o_q_1
  have zt := fun j : Int => (aI_ofc (j := j) (hq q_1 (fun z => nq_q_1 (z ▸ ha0)))).trans (zt j)
  have o_q_5 := hX.1 _ _ o_q_5
  have an := an.off hg mg_q_5 sf (fun x h => hq x (fun z => (hMc x h).elim (fun h => hn0 (z ▸ h)) (fun h => h (z ▸ ha0))))
  have sf := SF.off hg mg_q_5 sf (fun x h => hq x (fun z => (hMc x h).elim (fun h => hn0 (z ▸ h)) (fun h => h (z ▸ ha0))))
  have z1 := (fI_of (k := 1) (hq q_5 (fun z => nq_q_5 (z ▸ ha0)))).trans z1
  have hg := hg.off (fun x h => hq x (fun z => (hMc x h).elim (fun h => hn0 (z ▸ h)) (fun h => h (z ▸ ha0))))
  have hO : ∀ x ∈ L0, x ≠ a0 → f_11 x = f0 x := fun x m h => (hq x h).trans (hO x m h)
  have w_0 : fR f_11 a0 0 = some q_1 := by rw [ef_11, fR_pU (Or.inr (by decide))]; exact w_0
  have i_1 := (show fI f_11 a0 1 = fI f_8 a0 1 by rw [ef_11]; exact fI_pU (Or.inr (by decide))).trans i_1
  have w_2 : fR f_11 a0 2 = some q_5 := by rw [ef_11]; exact fR_pU_self oo rfl
  refine lv_aload_n hx hb dX9_init_29 rfl (lv_at hl 0 rfl) ?_
  refine q_iconst hx hb dX9_init_30 ?_
  refine q_newR (n := 2) (cA := cy.2.2.2.2) (C := RX7) hx hb hown (hts _ (List.mem_cons_of_mem _ (mr1 _ (List.mem_of_getElem? (i := 17) rfl)))) (hN _ (List.mem_of_getElem? (i := 20) rfl)) 4 rfl hK hw hA (by decide) (by decide) (by show 0 + 1 + 1 + 38 + 1 ≤ 41; omega) (by show 0 + 168 + 2 + 579 + 2 ≤ 751; omega) dX9_init_31 (fun q_12 H n_q_12 hw => ?_)
  obtain ⟨f_13, ef_13⟩ : ∃ g : Nat → va_E, g = va_up f_11 q_12 (.inl (cy.2.2.2.2, 2, .inr (.inr (.inr (.inr (fun _ => none)))))) := ⟨_, rfl⟩
  rw [← ef_13] at hw
  have hq : ∀ x ∈ L_9, f_13 x = f_11 x := fun x h => by rw [ef_13]; exact va_up_ne _ _ (fun z => n_q_12 (z ▸ h))
  have o_a0 := Ob_of (hq _ m_a0) o_a0
  have o_q_1 := ArI_of (hq _ m_q_1) o_q_1
  have zt := fun j : Int => (aI_ofc (j := j) (hq _ m_q_1)).trans (zt j)
  have o_q_5 := Ob_of (hq _ m_q_5) o_q_5
  have w_0 := (fR_of (k := 0) (hq _ m_a0)).trans w_0
  have w_2 := (fR_of (k := 2) (hq _ m_a0)).trans w_2
  have i_1 := (fI_of (k := 1) (hq _ m_a0)).trans i_1
  have hO : ∀ x ∈ L0, x ≠ a0 → f_13 x = f0 x := fun x m h => (hq x (hs x m)).trans (hO x m h)
  have an := an.off hg mg_q_5 sf (fun x h => hq x (hML x h))
  have sf := SF.off hg mg_q_5 sf (fun x h => hq x (hML x h))
  have z1 := (fI_of (k := 1) (hq _ m_q_5)).trans z1
  have hg := hg.off (fun x h => hq x (hML x h))
  have ne_a0 : a0 ≠ q_12 := fun z => n_q_12 (z ▸ m_a0)
  have m_a0 : a0 ∈ L_9 ++ [q_12] := List.mem_append_left _ m_a0
  have ne_q_1 : q_1 ≠ q_12 := fun z => n_q_12 (z ▸ m_q_1)
  have m_q_1 : q_1 ∈ L_9 ++ [q_12] := List.mem_append_left _ m_q_1
  have ne_q_5 : q_5 ≠ q_12 := fun z => n_q_12 (z ▸ m_q_5)
  have m_q_5 : q_5 ∈ L_9 ++ [q_12] := List.mem_append_left _ m_q_5
  have m_q_12 : q_12 ∈ L_9 ++ [q_12] := List.mem_append_right _ (List.mem_singleton.mpr rfl)
  have nq_q_12 : q_12 ∉ L0 := fun z => n_q_12 (hs _ z)
  have nm_q_12 : q_12 ∉ M_10 := fun z => n_q_12 (hML _ z)
  have hs : ∀ x ∈ L0, x ∈ L_9 ++ [q_12] := fun x h => List.mem_append_left _ (hs x h)
  have o_q_12 : ArR f_13 q_12 cy.2.2.2.2 2 := by rw [ef_13]; exact ⟨_, va_up_self _ _ _⟩
  have hML : ∀ x ∈ M_10, x ∈ L_9 ++ [q_12] := fun x h => List.mem_append_left _ (hML x h)
  have hc : ∀ x ∈ L_9 ++ [q_12], x ∈ L0 ∨ x ∈ M_10 ∨ x ∈ ([q_12]) := fun x h => (List.mem_append.mp h).elim (fun h => (hc x h).elim Or.inl (fun h => h.elim (fun h => Or.inr (Or.inl h)) (fun h => Or.inr (Or.inr (List.mem_append_left [q_12] h))))) (fun h => Or.inr (Or.inr (List.mem_append_right [] h)))
  have hg := hg.add (q := q_12) (fun _ _ o' => absurd o_q_12 o'.notR) (fun _ _ o' => absurd o_q_12 o'.notR) (fun j o' h0 h1 => absurd (o_q_12.uniq o').2 (by decide)) (fun j o' h0 h1 => Or.inl (by rw [ef_13]; exact aR_none _ _ _ _ _))
  have imn : ∀ j : Int, aR f_13 q_12 j = none := fun j => by rw [ef_13]; exact aR_none _ _ _ _ _
  have mg_q_1 : q_1 ∈ M_10 ++ [q_12] := List.mem_append_left _ mg_q_1
  have mg_q_5 : q_5 ∈ M_10 ++ [q_12] := List.mem_append_left _ mg_q_5
  have mg_q_12 : q_12 ∈ M_10 ++ [q_12] := List.mem_append_right _ (List.mem_singleton.mpr rfl)
  have hML : ∀ x ∈ M_10 ++ [q_12], x ∈ (L_9 ++ [q_12]) := fun x h => (List.mem_append.mp h).elim (fun h => hML x h) (fun h => by rw [List.mem_singleton.mp h]; exact m_q_12)
  have hM0 : ∀ x ∈ M, x ∈ M_10 ++ [q_12] := fun x h => List.mem_append_left _ (hM0 x h)
  have hMc : ∀ x ∈ M_10 ++ [q_12], x ∈ M ∨ x ∉ L0 := fun x h => (List.mem_append.mp h).elim (fun h => hMc x h) (fun h => by rw [List.mem_singleton.mp h]; exact Or.inr nq_q_12)
  have hc : ∀ x ∈ (L_9 ++ [q_12]), x ∈ L0 ∨ x ∈ (M_10 ++ [q_12]) ∨ x ∈ ([] : List Nat) := fun x h => by
    rcases hc x h with h | h | h
    · exact Or.inl h
    · exact Or.inr (Or.inl (List.mem_append_left _ h))
    · rcases List.mem_append.mp (show x ∈ ([] : List Nat) ++ [q_12] from h) with h | h
      · exact Or.inr (Or.inr h)
      · exact Or.inr (Or.inl (List.mem_append_right _ h))
  refine q_putFr (ci := 7) (C := RX9) (T := TX9) (N := 4) hx hb hts (fun w h => List.mem_cons_of_mem _ (mfX90 w h)) hown hK hw m_a0 o_a0 rfl 3 (by decide) (hts _ (List.mem_cons_of_mem _ (mr1 _ (List.mem_of_getElem? (i := 21) rfl)))) (fun _ h => h) tyX9 tyX9_ok nmX9 rfl hnm rfl (ty := tyX9 3) (by decide +kernel) rfl rfl rfl dX9_init_34 (fun H locs hw => ?_)
  obtain ⟨f_14, ef_14⟩ : ∃ g : Nat → va_E, g = pU f_13 a0 3 (.ref q_12) := ⟨_, rfl⟩
  rw [← ef_14] at hw
  have oo := o_a0
  have hq : ∀ x : Nat, x ≠ a0 → f_14 x = f_13 x := fun x h => by rw [ef_14]; exact pU_ne h
  have hX : Sh f_13 f_14 := by rw [ef_14]; exact Sh_pU oo rfl rfl
  have o_a0 := hX.1 _ _ o_a0
  have o_q_1 := hX.2.1 _ _ _ o_q_1
  have zt := fun j : Int => (aI_ofc (j := j) (hq q_1 (fun z => nq_q_1 (z ▸ ha0)))).trans (zt j)
  have o_q_5 := hX.1 _ _ o_q_5
  have o_q_12 := hX.2.2 _ _ _ o_q_12
  have an := an.off hg mg_q_5 sf (fun x h => hq x (fun z => (hMc x h).elim (fun h => hn0 (z ▸ h)) (fun h => h (z ▸ ha0))))
  have sf := SF.off hg mg_q_5 sf (fun x h => hq x (fun z => (hMc x h).elim (fun h => hn0 (z ▸ h)) (fun h => h (z ▸ ha0))))
  have z1 := (fI_of (k := 1) (hq q_5 (fun z => nq_q_5 (z ▸ ha0)))).trans z1
  have imn : ∀ j : Int, aR f_14 q_12 j = none := fun j => (aR_of (hq q_12 (fun z => nq_q_12 (z ▸ ha0)))).trans (imn j)
  have hg := hg.off (fun x h => hq x (fun z => (hMc x h).elim (fun h => hn0 (z ▸ h)) (fun h => h (z ▸ ha0))))
  have hO : ∀ x ∈ L0, x ≠ a0 → f_14 x = f0 x := fun x m h => (hq x h).trans (hO x m h)
  have w_0 : fR f_14 a0 0 = some q_1 := by rw [ef_14, fR_pU (Or.inr (by decide))]; exact w_0
  have w_2 : fR f_14 a0 2 = some q_5 := by rw [ef_14, fR_pU (Or.inr (by decide))]; exact w_2
  have i_1 := (show fI f_14 a0 1 = fI f_13 a0 1 by rw [ef_14]; exact fI_pU (Or.inr (by decide))).trans i_1
  have w_3 : fR f_14 a0 3 = some q_12 := by rw [ef_14]; exact fR_pU_self oo rfl
  have q_0 : fR f_14 a0 0 = some q_1 ∧ q_1 ∈ (M_10 ++ [q_12]) ++ [a0] ∧ _ := ⟨w_0, List.mem_append_left _ mg_q_1, o_q_1⟩
  have q_2 : fR f_14 a0 2 = some q_5 ∧ q_5 ∈ (M_10 ++ [q_12]) ++ [a0] ∧ _ := ⟨w_2, List.mem_append_left _ mg_q_5, o_q_5⟩
  have q_3 : fR f_14 a0 3 = some q_12 ∧ q_12 ∈ (M_10 ++ [q_12]) ++ [a0] ∧ _ := ⟨w_3, List.mem_append_left _ mg_q_12, o_q_12⟩
  have hg := hg.addOb o_a0 (fcond_7 (by rw [i_1]; decide)) (rcond_7 q_0 q_2 q_3)
  exact q_ret_v hx hb hr hlocks hK hAe hw (by show 0 + 1 + 1 + 38 + 1 ≤ 41; omega) (by show 0 + 168 + 2 + 579 + 2 ≤ 751; omega) dX9_init_37 ⟨⟨(M_10 ++ [q_12]) ++ [a0], fun x h => List.mem_append_left _ (hM0 x h), fun x h => (List.mem_append.mp h).elim (fun h => hML x h) (fun h => by rw [List.mem_singleton.mp h]; exact m_a0), fun x h => (List.mem_append.mp h).elim (fun h => (hMc x h).elim Or.inl (fun h => Or.inr (Or.inr h))) (fun h => Or.inr (Or.inl (List.mem_singleton.mp h))), List.mem_append_right _ (List.mem_singleton.mpr rfl), hs, fun x h => (hc x h).elim Or.inl (fun h => h.elim (fun h => Or.inr (List.mem_append_left _ h)) (fun h => absurd h List.not_mem_nil)), hg, hO, o_a0⟩, i_1, ⟨q_1, w_0, zt⟩, rq, q_5, q_12, w_2, sf, an, z1, w_3, imn⟩
