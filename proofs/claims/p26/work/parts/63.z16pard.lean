/-! ===== from when, how many times, until when ===== -/
noncomputable def spF (T : Int → Int) (n e : Int) : Int :=
  if wS T n e wFrom ≠ 0 then wS T n e wFrom else if daF T n (tQn T n 1 e) ≠ 0 then daF T n (tQn T n 1 e) else
  if wS T n (tQn T n 4 e) wTimes = 0 then nS T n (tQn T n 5 e) 1 999 else
  if wS T n (tQn T n 4 e) wUntil = 0 then (if daF T n (tQn T n 5 e) ≠ 0 then daF T n (tQn T n 5 e) else if daV T n (tQn T n 5 e) < daV T n (tQn T n 1 e) then 8 * tP T n (tQn T n 5 e) + 3 else 0) else 0
noncomputable def spU (T : Int → Int) (n e : Int) : Int := if wS T n (tQn T n 4 e) wTimes = 0 then -1 else if wS T n (tQn T n 4 e) wUntil = 0 then daV T n (tQn T n 5 e) else -1
noncomputable def spT (T : Int → Int) (n e : Int) : Int := if wS T n (tQn T n 4 e) wTimes = 0 then vN T n (tQn T n 5 e) else -1
noncomputable def spE (T : Int → Int) (n e : Int) : Int := if wS T n (tQn T n 4 e) wTimes = 0 then tQn T n 6 e else if wS T n (tQn T n 4 e) wUntil = 0 then tQn T n 8 e else tQn T n 4 e
theorem sp_from {T : Int → Int} {n e : Int} (h : wS T n e wFrom ≠ 0) : spF T n e = wS T n e wFrom := by unfold spF; rw [if_pos h]
theorem sp_date {T : Int → Int} {n e : Int} (h : wS T n e wFrom = 0) (g : daF T n (tQn T n 1 e) ≠ 0) : spF T n e = daF T n (tQn T n 1 e) := by unfold spF; rw [if_neg (by omega), if_pos g]
theorem sp_times {T : Int → Int} {n e : Int} (h : wS T n e wFrom = 0) (g : daF T n (tQn T n 1 e) = 0) (t : wS T n (tQn T n 4 e) wTimes = 0) : spF T n e = nS T n (tQn T n 5 e) 1 999 ∧ spU T n e = -1 ∧ spT T n e = vN T n (tQn T n 5 e) ∧ spE T n e = tQn T n 6 e := by
  unfold spF spU spT spE; rw [if_neg (by omega), if_neg (by omega), if_pos t, if_pos t, if_pos t, if_pos t]; exact ⟨rfl, rfl, rfl, rfl⟩
theorem sp_until {T : Int → Int} {n e : Int} (h : wS T n e wFrom = 0) (g : daF T n (tQn T n 1 e) = 0) (t : wS T n (tQn T n 4 e) wTimes ≠ 0) (u : wS T n (tQn T n 4 e) wUntil = 0) : (daF T n (tQn T n 5 e) ≠ 0 → spF T n e = daF T n (tQn T n 5 e)) ∧ (daF T n (tQn T n 5 e) = 0 → daV T n (tQn T n 5 e) < daV T n (tQn T n 1 e) → spF T n e = 8 * tP T n (tQn T n 5 e) + 3) ∧ (daF T n (tQn T n 5 e) = 0 → daV T n (tQn T n 1 e) ≤ daV T n (tQn T n 5 e) → spF T n e = 0) ∧ spU T n e = daV T n (tQn T n 5 e) ∧ spT T n e = -1 ∧ spE T n e = tQn T n 8 e := by
  unfold spF spU spT spE; rw [if_neg (by omega), if_neg (by omega), if_neg t, if_neg t, if_neg t, if_neg t, if_pos u, if_pos u, if_pos u]
  refine ⟨fun q => if_pos q, fun q r => ?_, fun q r => ?_, rfl, rfl, rfl⟩
  · rw [if_neg (by omega), if_pos r]
  · rw [if_neg (by omega), if_neg (by omega)]
theorem sp_no {T : Int → Int} {n e : Int} (h : wS T n e wFrom = 0) (g : daF T n (tQn T n 1 e) = 0) (t : wS T n (tQn T n 4 e) wTimes ≠ 0) (u : wS T n (tQn T n 4 e) wUntil ≠ 0) : spF T n e = 0 ∧ spU T n e = -1 ∧ spT T n e = -1 ∧ spE T n e = tQn T n 4 e := by
  unfold spF spU spT spE; rw [if_neg (by omega), if_neg (by omega), if_neg t, if_neg t, if_neg t, if_neg t, if_neg u, if_neg u, if_neg u]; exact ⟨rfl, rfl, rfl, rfl⟩
/-- of the old cells, two alone have changed -/
def OL (L : List Nat) (f g : Nat → va_E) (a b : Nat) : Prop := ∀ y ∈ L, y ≠ a → y ≠ b → g y = f y
theorem OL.refl (L : List Nat) (f : Nat → va_E) (a b : Nat) : OL L f f a b := fun _ _ _ _ => rfl
theorem OL.oa {L : List Nat} {f g h : Nat → va_E} {a b : Nat} (x : OL L f g a b) (y : OA g h a) : OL L f h a b := fun z m q r => (y z q).trans (x z m q r)
theorem OL.ob {L : List Nat} {f g h : Nat → va_E} {a b : Nat} (x : OL L f g a b) (y : OB g h a b) : OL L f h a b := fun z m q r => (y z q r).trans (x z m q r)
theorem OL.oab {L : List Nat} {f g h : Nat → va_E} {a b : Nat} (x : OL L f g a b) (y : OA g h b) : OL L f h a b := fun z m q r => (y z r).trans (x z m q r)
theorem OL.put {L : List Nat} {f g h : Nat → va_E} {a b k : Nat} {v : Value} (x : OL L f g a b) (e : h = pU g b k v) : OL L f h a b := by rw [e]; exact fun z m q r => (pU_ne r).trans (x z m q r)
theorem OL.hold {L M : List Nat} {f g h : Nat → va_E} {a b : Nat} (x : OL L f g a b) (s : ∀ y ∈ L, y ∈ M) (y : ∀ z ∈ M, h z = g z) : OL L f h a b := fun z m q r => (y z (s z m)).trans (x z m q r)
/-- a Booking as it is begun -/
def BG (f0 f : Nat → va_E) (b : Nat) (k n s v w u t : Int) : Prop := fI f b 0 = fI f0 b 0 ∧ fI f b 1 = fI f0 b 1 ∧ fI f b 2 = fI f0 b 2 ∧ (∃ r : Nat, r ≠ b ∧ fR f b 3 = some r ∧ RuK f r k n s v w) ∧ fI f b 4 = u ∧ fI f b 5 = t ∧ fI f b 6 = s
theorem BG.oa {f0 f g : Nat → va_E} {a b : Nat} {k n s v w u t : Int} (h : BG f0 f b k n s v w u t) (o : OA f g a) (oa : Ob f a 4) (ne : b ≠ a) : BG f0 g b k n s v w u t := by
  obtain ⟨h0, h1, h2, ⟨r, hn, hr, hk⟩, h4, h5, h6⟩ := h
  have e := o b ne
  have nr : r ≠ a := fun z => by
    rw [z] at hk
    rcases hk.rl with q | q | q | q <;> exact absurd (oa.uniq q) (by decide)
  exact ⟨(fI_of e).trans h0, (fI_of e).trans h1, (fI_of e).trans h2, ⟨r, hn, (fR_of e).trans hr, hk.of (o r nr)⟩, (fI_of e).trans h4, (fI_of e).trans h5, (fI_of e).trans h6⟩
theorem BG.p5 {f0 f g : Nat → va_E} {b : Nat} {k n s v w u t x y : Int} (h : BG f0 f b k n s v w u t) (o : Ob f b 0) (rx : rg x) (e : g = pU f b 5 (.int (iI x))) (ey : x = y) : BG f0 g b k n s v w u y := by
  obtain ⟨h0, h1, h2, ⟨r, hn, hr, hk⟩, h4, h5, h6⟩ := h
  rw [e, ← ey]
  exact ⟨(fI_pU (Or.inr (by decide))).trans h0, (fI_pU (Or.inr (by decide))).trans h1, (fI_pU (Or.inr (by decide))).trans h2, ⟨r, hn, (fR_pU (Or.inr (by decide))).trans hr, hk.of (pU_ne hn)⟩, (fI_pU (Or.inr (by decide))).trans h4, fI_pU_self o rfl rx, (fI_pU (Or.inr (by decide))).trans h6⟩
theorem BG.u {f0 f g : Nat → va_E} {a b : Nat} {k n s v w u t y : Int} (h : BG f0 f b k n s v w u t) (kb : KB f g b 4) (e4 : fI g b 4 = y) (o : OB f g a b) (oa : Ob f a 4) : BG f0 g b k n s v w y t := by
  obtain ⟨h0, h1, h2, ⟨r, hn, hr, hk⟩, h4, h5, h6⟩ := h
  have nr : r ≠ a := fun z => by
    rw [z] at hk
    rcases hk.rl with q | q | q | q <;> exact absurd (oa.uniq q) (by decide)
  exact ⟨(fI_W (kb 0 (by decide))).trans h0, (fI_W (kb 1 (by decide))).trans h1, (fI_W (kb 2 (by decide))).trans h2, ⟨r, hn, (fR_W (kb 3 (by decide))).trans hr, hk.of (o r nr hn)⟩, e4, (fI_W (kb 5 (by decide))).trans h5, (fI_W (kb 6 (by decide))).trans h6⟩
theorem K69.of {f g : Nat → va_E} {a : Nat} {F k n v w : Int} (h : K69 f a F k n v w) (e : g a = f a) : K69 g a F k n v w := ⟨(fI_of e).trans h.1, (fI_of e).trans h.2.1, (fI_of e).trans h.2.2.1, (fI_of e).trans h.2.2.2.1, (fI_of e).trans h.2.2.2.2⟩
theorem RS.of {T : Int → Int} {n e : Int} {f g : Nat → va_E} {a : Nat} (h : RS T n f a e) (q : g a = f a) : RS T n g a e := ⟨(fI_of q).trans h.1, (fI_of q).trans h.2.1, (fI_of q).trans h.2.2⟩
theorem RT.of {T : Int → Int} {n : Int} {f g : Nat → va_E} {a tp : Nat} (h : RT T n f a tp) (q : g a = f a) (p : g tp = f tp) : RT T n g a tp := by
  obtain ⟨h1, h2, h3, h4, h5, h6⟩ := h
  refine ⟨(fR_of q).trans h1, (fI_of q).trans h2, h3, h4, h5, fun i i0 i1 => ?_⟩
  have : aI g tp i = aI f tp i := by unfold aI; rw [p]
  rw [this]; exact h6 i i0 i1
theorem text_in {cy : Cy} {M : List Nat} {f : Nat → va_E} {a tp : Nat} {T : Int → Int} {n : Int} (hg : GI cy M f) (ma : a ∈ M) (oa : Ob f a 4) (rt : RT T n f a tp) : tp ∈ M ∧ ArI f tp cy.1 168 := by
  obtain ⟨r, r1, r2, r3⟩ := (show ∃ r, fR f a 0 = some r ∧ r ∈ M ∧ ArI f r cy.1 168 from hg.2.1 _ ma 4 0 oa)
  rw [← Option.some.inj (r1.symm.trans rt.1)]
  exact ⟨r2, r3⟩
theorem BG.start {f0 f g : Nat → va_E} {b r : Nat} {k n s v w : Int} (e : f b = f0 b) (h : OA f g b ∧ fI g b 0 = fI f b 0 ∧ fI g b 1 = fI f b 1 ∧ fI g b 2 = fI f b 2 ∧ fR g b 3 = some r ∧ fI g b 4 = -1 ∧ fI g b 5 = -1 ∧ fI g b 6 = fI f r 2) (ne : r ≠ b) (ru : RuK f r k n s v w) : BG f0 g b k n s v w (-1) (-1) := by
  obtain ⟨o, h0, h1, h2, h3, h4, h5, h6⟩ := h
  exact ⟨h0.trans (fI_of e), h1.trans (fI_of e), h2.trans (fI_of e), ⟨r, ne, h3, ru.of (o r ne)⟩, h4, h5, h6.trans ru.1.2.2.1⟩
def SB9 (s u t : Int) : Prop := 0 ≤ s ∧ s ≤ 36524 ∧ (u = -1 ∨ (s ≤ u ∧ u ≤ 36524)) ∧ (t = -1 ∨ (1 ≤ t ∧ t ≤ 999 ∧ u = -1))
theorem BG.to {f0 f : Nat → va_E} {b : Nat} {k n s v w u t u' t' : Int} (h : BG f0 f b k n s v w u t) (eu : u' = u) (et : t' = t) : BG f0 f b k n s v w u' t' := by rw [eu, et]; exact h
set_option maxHeartbeats 4000000 in
set_option maxRecDepth 100000 in
theorem c_X0_begin_p {Z : Zt} (zo : Zok Z) (l : Launch) (D : va_G) (cy : Cy) (L0 : List Nat) (f0 : Nat → va_E) (a0 : Nat) (a1 : Nat) (m_a0 : a0 ∈ L0) (o_a0 : Ob f0 a0 0) (m_a1 : a1 ∈ L0) (o_a1 : Rl f0 a1) (hg : GI cy L0 f0) (ne : a1 ≠ a0) : Cv Z l yX0_begin (Cond.code yX0_begin cX0_begin 2 none :: TB) ({ frames := 0, cells := 0, slots := 0, locals := 0 } : Room) 0 0 D (tq cy) [.ref a0, .ref a1] L0 f0 (fun (L1 : List Nat) (f1 : Nat → va_E) => L0 = L1 ∧ GI cy L0 f1 ∧ Ex cy f0 f1 ∧ (OA f0 f1 a0 ∧ fI f1 a0 0 = fI f0 a0 0 ∧ fI f1 a0 1 = fI f0 a0 1 ∧ fI f1 a0 2 = fI f0 a0 2 ∧ fR f1 a0 3 = some a1 ∧ fI f1 a0 4 = -1 ∧ fI f1 a0 5 = -1 ∧ fI f1 a0 6 = fI f0 a1 2)) := by
  refine Cv.enter (cc := cX0_begin) (n := 2) rfl (plainFor_of_name (by decide)) (Nat.le_of_ble_eq_true rfl) ?_
  intro p e s m below meth c ls A hx hb hr hts hown hlocks hnm hml hK hA hAe hw hZ hl
  have hown : s.vm.findClass RX0 = some m.cls := hown
  have hl : lv_has ls 2 [(0, .ref a0), (1, .ref a1)] := hl
  have hN : ZN s := (zo.2.2.2.2 _ _ _ hZ).2
  have hE : Ex cy f0 f0 := Ex.refl cy f0
  have oa := OA.refl f0 a0
  refine lv_aload_n hx hb dX0_begin_0 rfl (lv_at hl 0 rfl) ?_
  refine lv_aload_n hx hb dX0_begin_1 rfl (lv_at hl 1 rfl) ?_
  refine q_putr (ci := 0) (C := RX0) (T := TX0) (N := 15) hx hb hts (fun w h => List.mem_cons_of_mem _ (mfX00 w h)) hown hK hw m_a0 o_a0 rfl 3 (by decide) (hts _ (List.mem_cons_of_mem _ (mr3 _ (List.mem_of_getElem? (i := 4) rfl)))) (fun _ h => h) tyX0 tyX0_ok nmX0 rfl (ty := tyX0 3) (by decide +kernel) rfl rfl rfl dX0_begin_2 (fun H locs hw => ?_)
  have oo := o_a0
  obtain ⟨f_1, ef_1⟩ : ∃ g : Nat → va_E, g = pU f0 a0 3 (.ref a1) := ⟨_, rfl⟩
  have hX : Ex cy f0 f_1 := by rw [ef_1]; exact Ex_pU oo rfl rfl (by decide)
  have hg : GI cy L0 f_1 := by rw [ef_1]; exact hg.putR oo rfl ⟨a1, rfl, m_a1, o_a1⟩
  rw [← ef_1] at hw
  have hE := hE.trans hX
  have o_a0 := hX.1.1 _ _ o_a0
  have o_a1 := Rl.mono hX.1 o_a1
  have t_a0_0_f_1 : fI f_1 a0 0 = fI f0 a0 0 := by rw [ef_1]; exact fI_pU (Or.inr (by decide))
  have t_a0_1_f_1 : fI f_1 a0 1 = fI f0 a0 1 := by rw [ef_1]; exact fI_pU (Or.inr (by decide))
  have t_a0_2_f_1 : fI f_1 a0 2 = fI f0 a0 2 := by rw [ef_1]; exact fI_pU (Or.inr (by decide))
  have t_a0_4_f_1 : fI f_1 a0 4 = fI f0 a0 4 := by rw [ef_1]; exact fI_pU (Or.inr (by decide))
  have t_a0_5_f_1 : fI f_1 a0 5 = fI f0 a0 5 := by rw [ef_1]; exact fI_pU (Or.inr (by decide))
  have t_a0_6_f_1 : fI f_1 a0 6 = fI f0 a0 6 := by rw [ef_1]; exact fI_pU (Or.inr (by decide))
  have w3 : fR f_1 a0 3 = some a1 := by rw [ef_1]; exact fR_pU_self oo rfl
  have wr : fI f_1 a1 2 = fI f0 a1 2 := by rw [ef_1]; exact fI_pU (Or.inl ne)
  have oa := oa.put ef_1
  refine lv_aload_n hx hb dX0_begin_5 rfl (lv_at hl 0 rfl) ?_
  refine lv_aload_n hx hb dX0_begin_6 rfl (lv_at hl 1 rfl) ?_
  have K7 : ∀ (x_2 : Int) (lx_2 : -2147483648 ≤ x_2) (ux_2 : x_2 ≤ 2147483647) (ex_2 : x_2 = fI f_1 a1 2) (H : Heap) (locs : List Loc) (hw : Wd D A s.heap L0 f_1 H locs), W p l e ({ frames := 0, cells := 0, slots := 0, locals := 0 } : Room) s m ([.ref a0, .ref a1] : List Value).toArray below meth c H locs (0) (0) (MQ below (Qv D (tq cy) L0 f0 s.heap.size (fun (L1 : List Nat) (f1 : Nat → va_E) => L0 = L1 ∧ GI cy L0 f1 ∧ Ex cy f0 f1 ∧ (OA f0 f1 a0 ∧ fI f1 a0 0 = fI f0 a0 0 ∧ fI f1 a0 1 = fI f0 a0 1 ∧ fI f1 a0 2 = fI f0 a0 2 ∧ fR f1 a0 3 = some a1 ∧ fI f1 a0 4 = -1 ∧ fI f1 a0 5 = -1 ∧ fI f1 a0 6 = fI f0 a1 2))) ([.ref a0, .ref a1] : List Value).toArray s 0 0 A) (F0 m 10 ls (.int (iI x_2) :: [.ref a0])) := by
    intro x_2 lx_2 ux_2 ex_2 H locs hw
    refine q_puti (ci := 0) (C := RX0) (T := TX0) (N := 15) hx hb hts (fun w h => List.mem_cons_of_mem _ (mfX00 w h)) hown hK hw m_a0 o_a0 rfl 6 (by decide) (hts _ (List.mem_cons_of_mem _ (mr14 _ (List.mem_of_getElem? (i := 6) rfl)))) (fun _ h => h) tyX0 tyX0_ok nmX0 rfl (ty := .int) (by decide +kernel) rfl rfl dX0_begin_10 (fun H locs hw => ?_)
    have oo := o_a0
    obtain ⟨f_3, ef_3⟩ : ∃ g : Nat → va_E, g = pU f_1 a0 6 (.int (iI x_2)) := ⟨_, rfl⟩
    have hX : Ex cy f_1 f_3 := by rw [ef_3]; exact Ex_pU oo rfl rfl (by decide)
    have hg : GI cy L0 f_3 := by rw [ef_3]; exact hg.putI oo rfl ⟨lx_2, ux_2⟩ trivial
    rw [← ef_3] at hw
    have hE := hE.trans hX
    have o_a0 := hX.1.1 _ _ o_a0
    have o_a1 := Rl.mono hX.1 o_a1
    have t_a0_0_f_3 : fI f_3 a0 0 = fI f_1 a0 0 := by rw [ef_3]; exact fI_pU (Or.inr (by decide))
    have t_a0_1_f_3 : fI f_3 a0 1 = fI f_1 a0 1 := by rw [ef_3]; exact fI_pU (Or.inr (by decide))
    have t_a0_2_f_3 : fI f_3 a0 2 = fI f_1 a0 2 := by rw [ef_3]; exact fI_pU (Or.inr (by decide))
    have t_a0_4_f_3 : fI f_3 a0 4 = fI f_1 a0 4 := by rw [ef_3]; exact fI_pU (Or.inr (by decide))
    have t_a0_5_f_3 : fI f_3 a0 5 = fI f_1 a0 5 := by rw [ef_3]; exact fI_pU (Or.inr (by decide))
    have vf_3 : fI f_3 a0 6 = x_2 := by rw [ef_3]; exact fI_pU_self oo rfl ⟨lx_2, ux_2⟩
    have w3 : fR f_3 a0 3 = some a1 := by rw [ef_3, fR_pU (Or.inr (by decide))]; exact w3
    have oa := oa.put ef_3
    refine lv_aload_n hx hb dX0_begin_13 rfl (lv_at hl 0 rfl) ?_
    refine q_iconst hx hb dX0_begin_14 ?_
    refine q_puti (ci := 0) (C := RX0) (T := TX0) (N := 15) hx hb hts (fun w h => List.mem_cons_of_mem _ (mfX00 w h)) hown hK hw m_a0 o_a0 rfl 4 (by decide) (hts _ (List.mem_cons_of_mem _ (mr14 _ (List.mem_of_getElem? (i := 7) rfl)))) (fun _ h => h) tyX0 tyX0_ok nmX0 rfl (ty := .int) (by decide +kernel) rfl rfl dX0_begin_15 (fun H locs hw => ?_)
    have oo := o_a0
    obtain ⟨f_4, ef_4⟩ : ∃ g : Nat → va_E, g = pU f_3 a0 4 (.int (iI ((-1)))) := ⟨_, rfl⟩
    have hX : Ex cy f_3 f_4 := by rw [ef_4]; exact Ex_pU oo rfl rfl (by decide)
    have hg : GI cy L0 f_4 := by rw [ef_4]; exact hg.putI oo rfl ⟨by decide, by decide⟩ trivial
    rw [← ef_4] at hw
    have hE := hE.trans hX
    have o_a0 := hX.1.1 _ _ o_a0
    have o_a1 := Rl.mono hX.1 o_a1
    have t_a0_0_f_4 : fI f_4 a0 0 = fI f_3 a0 0 := by rw [ef_4]; exact fI_pU (Or.inr (by decide))
    have t_a0_1_f_4 : fI f_4 a0 1 = fI f_3 a0 1 := by rw [ef_4]; exact fI_pU (Or.inr (by decide))
    have t_a0_2_f_4 : fI f_4 a0 2 = fI f_3 a0 2 := by rw [ef_4]; exact fI_pU (Or.inr (by decide))
    have t_a0_5_f_4 : fI f_4 a0 5 = fI f_3 a0 5 := by rw [ef_4]; exact fI_pU (Or.inr (by decide))
    have t_a0_6_f_4 : fI f_4 a0 6 = fI f_3 a0 6 := by rw [ef_4]; exact fI_pU (Or.inr (by decide))
    have vf_4 : fI f_4 a0 4 = ((-1)) := by rw [ef_4]; exact fI_pU_self oo rfl ⟨by decide, by decide⟩
    have w3 : fR f_4 a0 3 = some a1 := by rw [ef_4, fR_pU (Or.inr (by decide))]; exact w3
    have oa := oa.put ef_4
    refine lv_aload_n hx hb dX0_begin_18 rfl (lv_at hl 0 rfl) ?_
    refine q_iconst hx hb dX0_begin_19 ?_
    refine q_puti (ci := 0) (C := RX0) (T := TX0) (N := 15) hx hb hts (fun w h => List.mem_cons_of_mem _ (mfX00 w h)) hown hK hw m_a0 o_a0 rfl 5 (by decide) (hts _ (List.mem_cons_of_mem _ (mr14 _ (List.mem_of_getElem? (i := 8) rfl)))) (fun _ h => h) tyX0 tyX0_ok nmX0 rfl (ty := .int) (by decide +kernel) rfl rfl dX0_begin_20 (fun H locs hw => ?_)
    have oo := o_a0
    obtain ⟨f_5, ef_5⟩ : ∃ g : Nat → va_E, g = pU f_4 a0 5 (.int (iI ((-1)))) := ⟨_, rfl⟩
    have hX : Ex cy f_4 f_5 := by rw [ef_5]; exact Ex_pU oo rfl rfl (by decide)
    have hg : GI cy L0 f_5 := by rw [ef_5]; exact hg.putI oo rfl ⟨by decide, by decide⟩ trivial
    rw [← ef_5] at hw
    have hE := hE.trans hX
    have o_a0 := hX.1.1 _ _ o_a0
    have o_a1 := Rl.mono hX.1 o_a1
    have t_a0_0_f_5 : fI f_5 a0 0 = fI f_4 a0 0 := by rw [ef_5]; exact fI_pU (Or.inr (by decide))
    have t_a0_1_f_5 : fI f_5 a0 1 = fI f_4 a0 1 := by rw [ef_5]; exact fI_pU (Or.inr (by decide))
    have t_a0_2_f_5 : fI f_5 a0 2 = fI f_4 a0 2 := by rw [ef_5]; exact fI_pU (Or.inr (by decide))
    have t_a0_4_f_5 : fI f_5 a0 4 = fI f_4 a0 4 := by rw [ef_5]; exact fI_pU (Or.inr (by decide))
    have t_a0_6_f_5 : fI f_5 a0 6 = fI f_4 a0 6 := by rw [ef_5]; exact fI_pU (Or.inr (by decide))
    have vf_5 : fI f_5 a0 5 = ((-1)) := by rw [ef_5]; exact fI_pU_self oo rfl ⟨by decide, by decide⟩
    have w3 : fR f_5 a0 3 = some a1 := by rw [ef_5, fR_pU (Or.inr (by decide))]; exact w3
    have oa := oa.put ef_5
    refine lv_aload_n hx hb dX0_begin_23 rfl (lv_at hl 0 rfl) ?_
    refine q_iconst hx hb dX0_begin_24 ?_
    refine q_puti (ci := 0) (C := RX0) (T := TX0) (N := 15) hx hb hts (fun w h => List.mem_cons_of_mem _ (mfX00 w h)) hown hK hw m_a0 o_a0 rfl 10 (by decide) (hts _ (List.mem_cons_of_mem _ (mr14 _ (List.mem_of_getElem? (i := 9) rfl)))) (fun _ h => h) tyX0 tyX0_ok nmX0 rfl (ty := .int) (by decide +kernel) rfl rfl dX0_begin_25 (fun H locs hw => ?_)
    have oo := o_a0
    obtain ⟨f_6, ef_6⟩ : ∃ g : Nat → va_E, g = pU f_5 a0 10 (.int (iI 0)) := ⟨_, rfl⟩
    have hX : Ex cy f_5 f_6 := by rw [ef_6]; exact Ex_pU oo rfl rfl (by decide)
    have hg : GI cy L0 f_6 := by rw [ef_6]; exact hg.putI oo rfl ⟨by decide, by decide⟩ (by show 0 ≤ 0 ∧ 0 ≤ 16; omega)
    rw [← ef_6] at hw
    have hE := hE.trans hX
    have o_a0 := hX.1.1 _ _ o_a0
    have o_a1 := Rl.mono hX.1 o_a1
    have t_a0_0_f_6 : fI f_6 a0 0 = fI f_5 a0 0 := by rw [ef_6]; exact fI_pU (Or.inr (by decide))
    have t_a0_1_f_6 : fI f_6 a0 1 = fI f_5 a0 1 := by rw [ef_6]; exact fI_pU (Or.inr (by decide))
    have t_a0_2_f_6 : fI f_6 a0 2 = fI f_5 a0 2 := by rw [ef_6]; exact fI_pU (Or.inr (by decide))
    have t_a0_4_f_6 : fI f_6 a0 4 = fI f_5 a0 4 := by rw [ef_6]; exact fI_pU (Or.inr (by decide))
    have t_a0_5_f_6 : fI f_6 a0 5 = fI f_5 a0 5 := by rw [ef_6]; exact fI_pU (Or.inr (by decide))
    have t_a0_6_f_6 : fI f_6 a0 6 = fI f_5 a0 6 := by rw [ef_6]; exact fI_pU (Or.inr (by decide))
    have vf_6 : fI f_6 a0 10 = 0 := by rw [ef_6]; exact fI_pU_self oo rfl ⟨by decide, by decide⟩
    have w3 : fR f_6 a0 3 = some a1 := by rw [ef_6, fR_pU (Or.inr (by decide))]; exact w3
    have oa := oa.put ef_6
    exact q_ret_v hx hb hr hlocks hK hAe hw (Nat.le_of_ble_eq_true rfl) (Nat.le_of_ble_eq_true rfl) dX0_begin_28 (by exact ⟨rfl, hg, hE, oa, by omega, by omega, by omega, w3, by omega, by omega, by omega⟩)
  rcases o_a1 with o9 | o9 | o9 | o9
  · exact q_geti (ci := 1) (C := RX2) (T := TX2) (N := 4) hx hb hts (fun w h => List.mem_cons_of_mem _ (mfX20 w h)) hown hK hw m_a1 o9 rfl 2 (by decide) (hts _ (List.mem_cons_of_mem _ (mr14 _ (List.mem_of_getElem? (i := 5) rfl)))) (fun _ h => h) rfl dX0_begin_7 (fun x_2 lx_2 ux_2 ex_2 => K7 x_2 lx_2 ux_2 ex_2 _ _ hw)
  · exact q_geti (ci := 2) (C := RX3) (T := TX3) (N := 7) hx hb hts (fun w h => List.mem_cons_of_mem _ (mfX30 w h)) hown hK hw m_a1 o9 rfl 2 (by decide) (hts _ (List.mem_cons_of_mem _ (mr14 _ (List.mem_of_getElem? (i := 5) rfl)))) (fun _ h => h) rfl dX0_begin_7 (fun x_2 lx_2 ux_2 ex_2 => K7 x_2 lx_2 ux_2 ex_2 _ _ hw)
  · exact q_geti (ci := 3) (C := RX4) (T := TX4) (N := 3) hx hb hts (fun w h => List.mem_cons_of_mem _ (mfX40 w h)) hown hK hw m_a1 o9 rfl 2 (by decide) (hts _ (List.mem_cons_of_mem _ (mr14 _ (List.mem_of_getElem? (i := 5) rfl)))) (fun _ h => h) rfl dX0_begin_7 (fun x_2 lx_2 ux_2 ex_2 => K7 x_2 lx_2 ux_2 ex_2 _ _ hw)
  · exact q_geti (ci := 6) (C := RX8) (T := TX8) (N := 6) hx hb hts (fun w h => List.mem_cons_of_mem _ (mfX80 w h)) hown hK hw m_a1 o9 rfl 2 (by decide) (hts _ (List.mem_cons_of_mem _ (mr14 _ (List.mem_of_getElem? (i := 5) rfl)))) (fun _ h => h) rfl dX0_begin_7 (fun x_2 lx_2 ux_2 ex_2 => K7 x_2 lx_2 ux_2 ex_2 _ _ hw)
set_option maxHeartbeats 4000000 in
set_option maxRecDepth 100000 in
theorem c_X5_readSpan_p {Z : Zt} (zo : Zok Z) (l : Launch) (D : va_G) (cy : Cy) (L0 : List Nat) (f0 : Nat → va_E) (a0 : Nat) (a1 : Nat) (m_a0 : a0 ∈ L0) (o_a0 : Ob f0 a0 4) (m_a1 : a1 ∈ L0) (o_a1 : Ob f0 a1 0) (hg : GI cy L0 f0) (Tt : Int → Int) (nn : Int) (tp : Nat) (rt : RT Tt nn f0 a0 tp) (ee : Int) (rs : RS Tt nn f0 a0 ee) (e0 : 0 ≤ ee) (e1 : ee ≤ nn) (Fq : Int) (k0 : Int) (n0 : Int) (v0 : Int) (w0 : Int) (kx : K69 f0 a0 Fq k0 n0 v0 w0) (okp : okP k0 n0 v0 w0) : Ci Z l yX5_readSpan (Cond.code yX5_readSpan cX5_readSpan 3 (some .boolean) :: TB) ({ frames := 7, cells := 1, slots := 7, locals := 151 } : Room) 1 7 D (tq cy) [.ref a0, .ref a1] L0 f0 (fun (r : Int) (L1 : List Nat) (f1 : Nat → va_E) => (∀ x ∈ L0, x ∈ L1) ∧ GI cy L1 f1 ∧ Al cy L0 f0 f1 ∧ ((r = 1 ∧ spF Tt nn ee = 0 ∧ BG f0 f1 a1 k0 n0 (daV Tt nn (tQn Tt nn 1 ee)) (rfV k0 v0 w0) (rfW k0 w0) (spU Tt nn ee) (spT Tt nn ee) ∧ OL L0 f0 f1 a0 a1 ∧ fI f1 a0 5 = Fq ∧ RT Tt nn f1 a0 tp ∧ RS Tt nn f1 a0 (spE Tt nn ee) ∧ SB9 (daV Tt nn (tQn Tt nn 1 ee)) (spU Tt nn ee) (spT Tt nn ee)) ∨ (r = 0 ∧ spF Tt nn ee ≠ 0 ∧ OL L0 f0 f1 a0 a1 ∧ fI f1 a0 5 = spF Tt nn ee))) := by
  refine Ci.enter (cc := cX5_readSpan) (n := 3) rfl (plainFor_of_name (by decide)) (Nat.le_of_ble_eq_true rfl) ?_
  intro p e s m below meth c ls A hx hb hr hts hown hlocks hnm hml hK hA hAe hw hZ hl
  have hown : s.vm.findClass RX5 = some m.cls := hown
  have hl : lv_has ls 3 [(0, .ref a0), (1, .ref a1)] := hl
  have hN : ZN s := (zo.2.2.2.2 _ _ _ hZ).2
  have hs : ∀ x ∈ L0, x ∈ L0 := fun _ h => h
  have hE : Al cy L0 f0 f0 := Al.refl cy L0 f0
  have nb0 := rt.2.2.1
  have nb1 := rt.2.2.2.1
  have rs1 := rs.1
  have rs2 := rs.2.1
  have rs3 := rs.2.2
  have pb := tP_b (T := Tt) e1
  have qb := tQ_b (T := Tt) e1
  have ne01 : a0 ≠ a1 := fun z => by rw [z] at o_a0; exact absurd (o_a0.uniq o_a1) (by decide)
  have ne10 := ne01.symm
  have tb1 := tQn_b (T := Tt) e0 e1 1
  have tb2 := tQn_b (T := Tt) e0 e1 2
  have tb3 := tQn_b (T := Tt) e0 e1 3
  have tb4 := tQn_b (T := Tt) e0 e1 4
  have tb5 := tQn_b (T := Tt) e0 e1 5
  have tb6 := tQn_b (T := Tt) e0 e1 6
  have tb7 := tQn_b (T := Tt) e0 e1 7
  have tb8 := tQn_b (T := Tt) e0 e1 8
  have ol := OL.refl L0 f0 a0 a1
  have ea1 : f0 a1 = f0 a1 := rfl
  have hgA := hg
  have ma0 := m_a0
  have ma1 := m_a1
  have mtp := text_in hg m_a0 o_a0 rt
  have oa1 := o_a1
  have oa9 := o_a0
  refine lv_aload_n hx hb dX5_readSpan_0 rfl (lv_at hl 0 rfl) ?_
  obtain ⟨t_1, v_t_1, h_t_1⟩ : ∃ q v : Nat, ∀ (A : Nat → Prop) (U : State) (H : Heap), Z A U H → vk_R RX5 127 "from" q U ∧ Tx [102, 114, 111, 109] q v A U H := ztx_14 zo
  obtain ⟨b_t_1, eb_t_1⟩ : ∃ b : List Int32, b = [102, 114, 111, 109] := ⟨_, rfl⟩
  have nb_t_1 : Asc b_t_1 := by rw [eb_t_1]; exact ⟨by decide, by decide +kernel⟩
  have tx_t_1 : ∀ (A : Nat → Prop) (U : State) (H : Heap), Z A U H → Tx b_t_1 t_1 v_t_1 A U H := fun A U H h => by rw [eb_t_1]; exact (h_t_1 A U H h).2
  refine va_ldcS hx hb hown (h_t_1 _ _ _ hZ).1 dX5_readSpan_1 ?_
  have ebw3 : b_t_1 = wFrom := eb_t_1
  refine q_call_i hA hK hw (va_runV (As := [.ref t_1]) (rest := []) ⟨hx, hb, hml, hown, hts⟩ (c_X5_require_q zo l D cy L0 f0 a0 t_1 m_a0 o_a0 b_t_1 v_t_1 nb_t_1 tx_t_1 hg Tt nn tp rt ee rs (by omega) (by omega) _) (cwV 1 hts (gT (inV (mr7 _ (List.mem_of_getElem? (i := 17) rfl)) (mr7 _ (List.mem_of_getElem? (i := 18) rfl)) (mr7 _ (List.mem_of_getElem? (i := 19) rfl)) (mr5 _ (List.mem_of_getElem? (i := 18) rfl)) (mr7 _ (List.mem_of_getElem? (i := 20) rfl)))) rfl rfl rfl (by decide +kernel) ⟨Nat.le_of_ble_eq_true rfl, Nat.le_of_ble_eq_true rfl⟩) (Wd.preV zo hA hZ hw hK m_a0 o_a0 rfl) rfl rfl hl.1 rfl (lv_room (Nat.le_of_ble_eq_true rfl)) dX5_readSpan_3 ⟨Nat.le_of_ble_eq_true rfl, Nat.le_of_ble_eq_true rfl⟩) (fun x_2 L1 f_3 H locs lx_2 ux_2 ex_2 hw => ?_)
  obtain ⟨rfl, hg, hX, ex_2⟩ := ex_2
  have hE := hE.trans hs (hX.ey.al _)
  have o_a0 := hX.1.1 _ _ o_a0
  have o_a1 := hX.1.1 _ _ o_a1
  have t3 := ex_2
  rw [ebw3] at t3
  refine q_if_ne (tgt := 11) hx hb dX5_readSpan_6 (by decide) ⟨lx_2, ux_2⟩ (fun c6 => ?_) (fun c6 => ?_)
  · obtain ⟨_, w3, qo, qk, rt, rs⟩ := t3.resolve_right (by omega)
    have ol := ol.oa qo
    have kx : K69 f_3 a0 Fq k0 n0 v0 w0 := kx.k5 qk
    have rs1 := rs.1
    have rs2 := rs.2.1
    have rs3 := rs.2.2
    have ea1 : f_3 a1 = f0 a1 := (qo a1 ne10).trans ea1
    refine lv_aload_n hx hb dX5_readSpan_11 rfl (lv_at hl 0 rfl) ?_
    refine q_call_i hA hK hw (va_runV (As := []) (rest := []) ⟨hx, hb, hml, hown, hts⟩ (c_X5_readDate_p zo l D cy L0 f_3 a0 m_a0 o_a0 hg Tt nn tp rt (tQn Tt nn 1 ee) rs (by omega) (by omega) _) (cwV 0 hts (gT (inV (mr11 _ (List.mem_of_getElem? (i := 15) rfl)) (mr11 _ (List.mem_of_getElem? (i := 16) rfl)) (mr11 _ (List.mem_of_getElem? (i := 17) rfl)) (mr5 _ (List.mem_of_getElem? (i := 18) rfl)) (mr11 _ (List.mem_of_getElem? (i := 18) rfl)))) rfl rfl rfl (by decide +kernel) ⟨Nat.le_of_ble_eq_true rfl, Nat.le_of_ble_eq_true rfl⟩) (Wd.preV zo hA hZ hw hK m_a0 o_a0 rfl) rfl rfl hl.1 rfl (lv_room (Nat.le_of_ble_eq_true rfl)) dX5_readSpan_12 ⟨Nat.le_of_ble_eq_true rfl, Nat.le_of_ble_eq_true rfl⟩) (fun x_4 L1 f_5 H locs lx_4 ux_4 ex_4 hw => ?_)
    obtain ⟨rfl, hg, hX, ex_4⟩ := ex_4
    have hE := hE.trans hs (hX.ey.al _)
    have o_a0 := hX.1.1 _ _ o_a0
    have o_a1 := hX.1.1 _ _ o_a1
    have t12 := ex_4
    refine lv_istore_n (lv' := [(2, .int (iI x_4)), (0, .ref a0), (1, .ref a1)]) hx hb dX5_readSpan_15 rfl hl (by decide) rfl (fun ls hl => ?_)
    refine lv_iload_n hx hb dX5_readSpan_16 rfl (lv_at hl 0 rfl) ?_
    refine q_iconst hx hb dX5_readSpan_17 ?_
    refine q_icmp_ne (tgt := 23) hx hb dX5_readSpan_18 (by decide) ⟨lx_4, ux_4⟩ ⟨by decide, by decide⟩ (fun c18 => ?_) (fun c18 => ?_)
    · obtain ⟨w12, q12, l12, u12, qo, qk, rt, rs⟩ := t12.resolve_right (by omega)
      have ol := ol.oa qo
      have kx : K69 f_5 a0 Fq k0 n0 v0 w0 := kx.k5 qk
      have rs1 := rs.1
      have rs2 := rs.2.1
      have rs3 := rs.2.2
      have ea1 : f_5 a1 = f0 a1 := (qo a1 ne10).trans ea1
      refine lv_aload_n hx hb dX5_readSpan_23 rfl (lv_at hl 2 rfl) ?_
      refine lv_aload_n hx hb dX5_readSpan_24 rfl (lv_at hl 1 rfl) ?_
      refine lv_iload_n hx hb dX5_readSpan_25 rfl (lv_at hl 0 rfl) ?_
      refine q_call_r hA hK hw (va_runV (As := [.int (iI x_4)]) (rest := [.ref a1]) ⟨hx, hb, hml, hown, hts⟩ (c_X5_makeRule_p zo l D cy L0 f_5 a0 x_4 lx_4 ux_4 m_a0 o_a0 hg Fq k0 n0 v0 w0 kx okp (by omega) (by omega) _) (cwV 1 hts (gT (inV (mr12 _ (List.mem_of_getElem? (i := 5) rfl)) (mr12 _ (List.mem_of_getElem? (i := 6) rfl)) (mr12 _ (List.mem_of_getElem? (i := 7) rfl)) (mr5 _ (List.mem_of_getElem? (i := 18) rfl)) (mr12 _ (List.mem_of_getElem? (i := 8) rfl)))) rfl rfl rfl (by decide +kernel) ⟨Nat.le_of_ble_eq_true rfl, Nat.le_of_ble_eq_true rfl⟩) (Wd.preV zo hA hZ hw hK m_a0 o_a0 rfl) rfl rfl hl.1 rfl (lv_room (Nat.le_of_ble_eq_true rfl)) dX5_readSpan_26 ⟨Nat.le_of_ble_eq_true rfl, Nat.le_of_ble_eq_true rfl⟩) (fun x_6 L_8 f_7 H locs ex_6 hw => ?_)
      obtain ⟨hs1, hg, hX, ex_6⟩ := ex_6
      have hE := hE.trans hs (hX)
      have o_a0 := hX.1 _ m_a0 _ o_a0
      have o_a1 := hX.1 _ m_a1 _ o_a1
      have m_a0 := hs1 _ m_a0
      have m_a1 := hs1 _ m_a1
      have hs : ∀ x ∈ L0, x ∈ L_8 := fun x h => hs1 x (hs x h)
      obtain ⟨m_x_6, o_x_6, ex_6⟩ := ex_6
      obtain ⟨hd, nr, ruk⟩ := ex_6
      rw [q12] at ruk
      have ol := ol.hold (fun _ h => h) hd
      have kx : K69 f_7 a0 Fq k0 n0 v0 w0 := kx.of (hd a0 ma0)
      have rt := rt.of (hd a0 ma0) (hd tp mtp.1)
      have rs := rs.of (hd a0 ma0)
      have ea1 := (hd a1 ma1).trans ea1
      have nr1 := (fun (z : x_6 = a1) => nr (z ▸ ma1))
      have rs1 := rs.1
      have rs2 := rs.2.1
      have rs3 := rs.2.2
      refine q_call_v hA hK hw (va_runV (As := [.ref x_6]) (rest := []) ⟨hx, hb, hml, hown, hts⟩ (c_X0_begin_p zo l D cy L_8 f_7 a1 x_6 m_a1 o_a1 m_x_6 o_x_6 hg (fun z => nr (z ▸ ma1)) _) (cwV 1 hts (gT (inV (mr14 _ (List.mem_of_getElem? (i := 1) rfl)) (mr14 _ (List.mem_of_getElem? (i := 2) rfl)) (mr14 _ (List.mem_of_getElem? (i := 3) rfl)) (mr2 _ (List.mem_of_getElem? (i := 9) rfl)) (mr14 _ (List.mem_of_getElem? (i := 4) rfl)))) rfl rfl rfl (by decide +kernel) ⟨Nat.le_of_ble_eq_true rfl, Nat.le_of_ble_eq_true rfl⟩) (Wd.preV zo hA hZ hw hK m_a1 o_a1 rfl) rfl rfl hl.1 rfl (lv_room (Nat.le_of_ble_eq_true rfl)) dX5_readSpan_29 ⟨Nat.le_of_ble_eq_true rfl, Nat.le_of_ble_eq_true rfl⟩) (fun L1 f_10 H locs ex_9 hw => ?_)
      obtain ⟨rfl, hg, hX, ex_9⟩ := ex_9
      have hE := hE.trans hs (hX.ey.al _)
      have o_a0 := hX.1.1 _ _ o_a0
      have o_a1 := hX.1.1 _ _ o_a1
      have e29 := ex_9
      have bg : BG f0 f_10 a1 k0 n0 (daV Tt nn (tQn Tt nn 1 ee)) (rfV k0 v0 w0) (rfW k0 w0) (-1) (-1) := BG.start ea1 e29 nr1 ruk
      have ol := ol.oab e29.1
      have kx : K69 f_10 a0 Fq k0 n0 v0 w0 := kx.of (e29.1 a0 ne01)
      have rt := rt.of (e29.1 a0 ne01) (e29.1 tp (fun z => by have q := mtp.2; rw [z] at q; exact oa1.notI q))
      have rs := rs.of (e29.1 a0 ne01)
      have rs1 := rs.1
      have rs2 := rs.2.1
      have rs3 := rs.2.2
      refine lv_aload_n hx hb dX5_readSpan_32 rfl (lv_at hl 1 rfl) ?_
      obtain ⟨t_11, v_t_11, h_t_11⟩ : ∃ q v : Nat, ∀ (A : Nat → Prop) (U : State) (H : Heap), Z A U H → vk_R RX5 140 "times" q U ∧ Tx [116, 105, 109, 101, 115] q v A U H := ztx_15 zo
      obtain ⟨b_t_11, eb_t_11⟩ : ∃ b : List Int32, b = [116, 105, 109, 101, 115] := ⟨_, rfl⟩
      have nb_t_11 : Asc b_t_11 := by rw [eb_t_11]; exact ⟨by decide, by decide +kernel⟩
      have tx_t_11 : ∀ (A : Nat → Prop) (U : State) (H : Heap), Z A U H → Tx b_t_11 t_11 v_t_11 A U H := fun A U H h => by rw [eb_t_11]; exact (h_t_11 A U H h).2
      refine va_ldcS hx hb hown (h_t_11 _ _ _ hZ).1 dX5_readSpan_33 ?_
      have ebw35 : b_t_11 = wTimes := eb_t_11
      have oa4 := o_a0
      refine q_call_i hA hK hw (va_runV (As := [.ref t_11]) (rest := []) ⟨hx, hb, hml, hown, hts⟩ (c_X5_take_q zo l D cy L_8 f_10 a0 t_11 m_a0 o_a0 b_t_11 v_t_11 nb_t_11 tx_t_11 hg Tt nn tp rt (tQn Tt nn 4 ee) rs (by omega) (by omega) _) (cwV 1 hts (gT (inV (mr7 _ (List.mem_of_getElem? (i := 21) rfl)) (mr7 _ (List.mem_of_getElem? (i := 22) rfl)) (mr7 _ (List.mem_of_getElem? (i := 23) rfl)) (mr5 _ (List.mem_of_getElem? (i := 18) rfl)) (mr8 _ (List.mem_of_getElem? (i := 0) rfl)))) rfl rfl rfl (by decide +kernel) ⟨Nat.le_of_ble_eq_true rfl, Nat.le_of_ble_eq_true rfl⟩) (Wd.preV zo hA hZ hw hK m_a0 o_a0 rfl) rfl rfl hl.1 rfl (lv_room (Nat.le_of_ble_eq_true rfl)) dX5_readSpan_35 ⟨Nat.le_of_ble_eq_true rfl, Nat.le_of_ble_eq_true rfl⟩) (fun x_12 L1 f_13 H locs lx_12 ux_12 ex_12 hw => ?_)
      obtain ⟨rfl, hg, hX, ex_12⟩ := ex_12
      have hE := hE.trans hs (hX.ey.al _)
      have o_a0 := hX.1.1 _ _ o_a0
      have o_a1 := hX.1.1 _ _ o_a1
      have t35 := ex_12
      rw [ebw35] at t35
      refine q_if_eq (tgt := 67) hx hb dX5_readSpan_38 (by decide) ⟨lx_12, ux_12⟩ (fun c38 => ?_) (fun c38 => ?_)
      · obtain ⟨_, w35, qz⟩ := t35.resolve_left (by omega)
        have rt : RT Tt nn f_13 a0 tp := by rw [qz]; exact rt
        have rs : RS Tt nn f_13 a0 (tQn Tt nn 4 ee) := by rw [qz]; exact rs
        have kx : K69 f_13 a0 Fq k0 n0 v0 w0 := by rw [qz]; exact kx
        have ol : OL L0 f0 f_13 a0 a1 := by rw [qz]; exact ol
        have rs1 := rs.1
        have rs2 := rs.2.1
        have rs3 := rs.2.2
        have bg : BG f0 f_13 a1 k0 n0 (daV Tt nn (tQn Tt nn 1 ee)) (rfV k0 v0 w0) (rfW k0 w0) (-1) (-1) := by rw [qz]; exact bg
        refine lv_aload_n hx hb dX5_readSpan_67 rfl (lv_at hl 1 rfl) ?_
        obtain ⟨t_14, v_t_14, h_t_14⟩ : ∃ q v : Nat, ∀ (A : Nat → Prop) (U : State) (H : Heap), Z A U H → vk_R RX5 144 "until" q U ∧ Tx [117, 110, 116, 105, 108] q v A U H := ztx_16 zo
        obtain ⟨b_t_14, eb_t_14⟩ : ∃ b : List Int32, b = [117, 110, 116, 105, 108] := ⟨_, rfl⟩
        have nb_t_14 : Asc b_t_14 := by rw [eb_t_14]; exact ⟨by decide, by decide +kernel⟩
        have tx_t_14 : ∀ (A : Nat → Prop) (U : State) (H : Heap), Z A U H → Tx b_t_14 t_14 v_t_14 A U H := fun A U H h => by rw [eb_t_14]; exact (h_t_14 A U H h).2
        refine va_ldcS hx hb hown (h_t_14 _ _ _ hZ).1 dX5_readSpan_68 ?_
        have ebw70 : b_t_14 = wUntil := eb_t_14
        have oa4 := o_a0
        refine q_call_i hA hK hw (va_runV (As := [.ref t_14]) (rest := []) ⟨hx, hb, hml, hown, hts⟩ (c_X5_take_q zo l D cy L_8 f_13 a0 t_14 m_a0 o_a0 b_t_14 v_t_14 nb_t_14 tx_t_14 hg Tt nn tp rt (tQn Tt nn 4 ee) rs (by omega) (by omega) _) (cwV 1 hts (gT (inV (mr7 _ (List.mem_of_getElem? (i := 21) rfl)) (mr7 _ (List.mem_of_getElem? (i := 22) rfl)) (mr7 _ (List.mem_of_getElem? (i := 23) rfl)) (mr5 _ (List.mem_of_getElem? (i := 18) rfl)) (mr8 _ (List.mem_of_getElem? (i := 0) rfl)))) rfl rfl rfl (by decide +kernel) ⟨Nat.le_of_ble_eq_true rfl, Nat.le_of_ble_eq_true rfl⟩) (Wd.preV zo hA hZ hw hK m_a0 o_a0 rfl) rfl rfl hl.1 rfl (lv_room (Nat.le_of_ble_eq_true rfl)) dX5_readSpan_70 ⟨Nat.le_of_ble_eq_true rfl, Nat.le_of_ble_eq_true rfl⟩) (fun x_15 L1 f_16 H locs lx_15 ux_15 ex_15 hw => ?_)
        obtain ⟨rfl, hg, hX, ex_15⟩ := ex_15
        have hE := hE.trans hs (hX.ey.al _)
        have o_a0 := hX.1.1 _ _ o_a0
        have o_a1 := hX.1.1 _ _ o_a1
        have t70 := ex_15
        rw [ebw70] at t70
        refine q_if_eq (tgt := 85) hx hb dX5_readSpan_73 (by decide) ⟨lx_15, ux_15⟩ (fun c73 => ?_) (fun c73 => ?_)
        · obtain ⟨_, w70, qz⟩ := t70.resolve_left (by omega)
          have rt : RT Tt nn f_16 a0 tp := by rw [qz]; exact rt
          have rs : RS Tt nn f_16 a0 (tQn Tt nn 4 ee) := by rw [qz]; exact rs
          have kx : K69 f_16 a0 Fq k0 n0 v0 w0 := by rw [qz]; exact kx
          have ol : OL L0 f0 f_16 a0 a1 := by rw [qz]; exact ol
          have rs1 := rs.1
          have rs2 := rs.2.1
          have rs3 := rs.2.2
          have bg : BG f0 f_16 a1 k0 n0 (daV Tt nn (tQn Tt nn 1 ee)) (rfV k0 v0 w0) (rfW k0 w0) (-1) (-1) := by rw [qz]; exact bg
          refine q_iconst hx hb dX5_readSpan_85 ?_
          refine lv_goto (tgt := 90) hx hb dX5_readSpan_86 (by decide) ?_
          exact q_ret_z hx hb hr hlocks hK hAe hw (by omega) (Nat.le_of_ble_eq_true rfl) (Nat.le_of_ble_eq_true rfl) dX5_readSpan_90 (by first | (have z := sp_no w3 w12 w35 w70; exact ⟨hs, hg, hE, Or.inl ⟨by omega, z.1, bg.to z.2.1 z.2.2.1, ol, kx.1, rt, rs.to z.2.2.2, by unfold SB9; omega⟩⟩) | (have z := sp_until w3 w12 w35 w70; exact ⟨hs, hg, hE, Or.inl ⟨by omega, z.2.2.1 w79 (by omega), bg.to z.2.2.2.1 z.2.2.2.2.1, ol, f5, rt, rs.to z.2.2.2.2.2, by unfold SB9; omega⟩⟩) | (have z := sp_until w3 w12 w35 w70; rcases q5 with ⟨y1, y2⟩ | ⟨y1, y2, y3⟩; (have y := z.1 y1; exact ⟨hs, hg, hE, Or.inr ⟨by omega, by omega, ol, by omega⟩⟩); (have y := z.2.1 y1 (by omega); exact ⟨hs, hg, hE, Or.inr ⟨by omega, by omega, ol, by omega⟩⟩)))
        · obtain ⟨_, w70, qo, qk, rt, rs⟩ := t70.resolve_right (by omega)
          have ol := ol.oa qo
          have kx : K69 f_16 a0 Fq k0 n0 v0 w0 := kx.k5 qk
          have rs1 := rs.1
          have rs2 := rs.2.1
          have rs3 := rs.2.2
          have bg := bg.oa qo oa4 ne10
          refine lv_aload_n hx hb dX5_readSpan_76 rfl (lv_at hl 1 rfl) ?_
          refine lv_aload_n hx hb dX5_readSpan_77 rfl (lv_at hl 2 rfl) ?_
          refine lv_iload_n hx hb dX5_readSpan_78 rfl (lv_at hl 0 rfl) ?_
          have oa4 := o_a0
          refine q_call_i hA hK hw (va_runV (As := [.ref a1, .int (iI x_4)]) (rest := []) ⟨hx, hb, hml, hown, hts⟩ (c_X5_readUntil_p zo l D cy L_8 f_16 a0 a1 x_4 lx_4 ux_4 m_a0 o_a0 m_a1 o_a1 hg Tt nn tp rt (tQn Tt nn 5 ee) rs (by omega) (by omega) _) (cwV 2 hts (gT (inV (mr14 _ (List.mem_of_getElem? (i := 10) rfl)) (mr14 _ (List.mem_of_getElem? (i := 11) rfl)) (mr14 _ (List.mem_of_getElem? (i := 12) rfl)) (mr5 _ (List.mem_of_getElem? (i := 18) rfl)) (mr14 _ (List.mem_of_getElem? (i := 13) rfl)))) rfl rfl rfl (by decide +kernel) ⟨Nat.le_of_ble_eq_true rfl, Nat.le_of_ble_eq_true rfl⟩) (Wd.preV zo hA hZ hw hK m_a0 o_a0 rfl) rfl rfl hl.1 rfl (lv_room (Nat.le_of_ble_eq_true rfl)) dX5_readSpan_79 ⟨Nat.le_of_ble_eq_true rfl, Nat.le_of_ble_eq_true rfl⟩) (fun x_17 L1 f_18 H locs lx_17 ux_17 ex_17 hw => ?_)
          obtain ⟨rfl, hg, hX, ex_17⟩ := ex_17
          have hE := hE.trans hs (hX.ey.al _)
          have o_a0 := hX.1.1 _ _ o_a0
          have o_a1 := hX.1.1 _ _ o_a1
          have t79 := ex_17
          refine q_if_eq (tgt := 89) hx hb dX5_readSpan_82 (by decide) ⟨lx_17, ux_17⟩ (fun c82 => ?_) (fun c82 => ?_)
          · obtain ⟨_, qob, q5⟩ := t79.resolve_left (by omega)
            have ol := ol.ob qob
            refine q_iconst hx hb dX5_readSpan_89 ?_
            exact q_ret_z hx hb hr hlocks hK hAe hw (by omega) (Nat.le_of_ble_eq_true rfl) (Nat.le_of_ble_eq_true rfl) dX5_readSpan_90 (by first | (have z := sp_no w3 w12 w35 w70; exact ⟨hs, hg, hE, Or.inl ⟨by omega, z.1, bg.to z.2.1 z.2.2.1, ol, kx.1, rt, rs.to z.2.2.2, by unfold SB9; omega⟩⟩) | (have z := sp_until w3 w12 w35 w70; exact ⟨hs, hg, hE, Or.inl ⟨by omega, z.2.2.1 w79 (by omega), bg.to z.2.2.2.1 z.2.2.2.2.1, ol, f5, rt, rs.to z.2.2.2.2.2, by unfold SB9; omega⟩⟩) | (have z := sp_until w3 w12 w35 w70; rcases q5 with ⟨y1, y2⟩ | ⟨y1, y2, y3⟩; (have y := z.1 y1; exact ⟨hs, hg, hE, Or.inr ⟨by omega, by omega, ol, by omega⟩⟩); (have y := z.2.1 y1 (by omega); exact ⟨hs, hg, hE, Or.inr ⟨by omega, by omega, ol, by omega⟩⟩)))
          · obtain ⟨_, w79, q79, l79, v79, kb, qob, qk, rt, rs⟩ := t79.resolve_right (by omega)
            have ol := ol.ob qob
            have f5 := qk.1.trans kx.1
            have bg := bg.u kb v79 qob oa4
            refine q_iconst hx hb dX5_readSpan_85 ?_
            refine lv_goto (tgt := 90) hx hb dX5_readSpan_86 (by decide) ?_
            exact q_ret_z hx hb hr hlocks hK hAe hw (by omega) (Nat.le_of_ble_eq_true rfl) (Nat.le_of_ble_eq_true rfl) dX5_readSpan_90 (by first | (have z := sp_no w3 w12 w35 w70; exact ⟨hs, hg, hE, Or.inl ⟨by omega, z.1, bg.to z.2.1 z.2.2.1, ol, kx.1, rt, rs.to z.2.2.2, by unfold SB9; omega⟩⟩) | (have z := sp_until w3 w12 w35 w70; exact ⟨hs, hg, hE, Or.inl ⟨by omega, z.2.2.1 w79 (by omega), bg.to z.2.2.2.1 z.2.2.2.2.1, ol, f5, rt, rs.to z.2.2.2.2.2, by unfold SB9; omega⟩⟩) | (have z := sp_until w3 w12 w35 w70; rcases q5 with ⟨y1, y2⟩ | ⟨y1, y2, y3⟩; (have y := z.1 y1; exact ⟨hs, hg, hE, Or.inr ⟨by omega, by omega, ol, by omega⟩⟩); (have y := z.2.1 y1 (by omega); exact ⟨hs, hg, hE, Or.inr ⟨by omega, by omega, ol, by omega⟩⟩)))
      · obtain ⟨_, w35, qo, qk, rt, rs⟩ := t35.resolve_right (by omega)
        have ol := ol.oa qo
        have kx : K69 f_13 a0 Fq k0 n0 v0 w0 := kx.k5 qk
        have rs1 := rs.1
        have rs2 := rs.2.1
        have rs3 := rs.2.2
        have bg := bg.oa qo oa4 ne10
        refine lv_aload_n hx hb dX5_readSpan_41 rfl (lv_at hl 2 rfl) ?_
        refine lv_aload_n hx hb dX5_readSpan_42 rfl (lv_at hl 1 rfl) ?_
        refine q_iconst hx hb dX5_readSpan_43 ?_
        have oa4 := o_a0
        refine q_sipush hx hb dX5_readSpan_44 rfl ?_
        refine q_call_i hA hK hw (va_runV (As := [.int (iI 1), .int (iI 999)]) (rest := [.ref a1]) ⟨hx, hb, hml, hown, hts⟩ (c_X5_takeNumber_q zo l D cy L_8 f_13 a0 1 (by decide) (by decide) 999 (by decide) (by decide) m_a0 o_a0 hg Tt nn tp rt (tQn Tt nn 5 ee) rs (by omega) (by omega) _) (cwV 2 hts (gT (inV (mr10 _ (List.mem_of_getElem? (i := 10) rfl)) (mr10 _ (List.mem_of_getElem? (i := 11) rfl)) (mr10 _ (List.mem_of_getElem? (i := 12) rfl)) (mr5 _ (List.mem_of_getElem? (i := 18) rfl)) (mr10 _ (List.mem_of_getElem? (i := 13) rfl)))) rfl rfl rfl (by decide +kernel) ⟨Nat.le_of_ble_eq_true rfl, Nat.le_of_ble_eq_true rfl⟩) (Wd.preV zo hA hZ hw hK m_a0 o_a0 rfl) rfl rfl hl.1 rfl (lv_room (Nat.le_of_ble_eq_true rfl)) dX5_readSpan_47 ⟨Nat.le_of_ble_eq_true rfl, Nat.le_of_ble_eq_true rfl⟩) (fun x_19 L1 f_20 H locs lx_19 ux_19 ex_19 hw => ?_)
        obtain ⟨rfl, hg, hX, ex_19⟩ := ex_19
        have hE := hE.trans hs (hX.ey.al _)
        have o_a0 := hX.1.1 _ _ o_a0
        have o_a1 := hX.1.1 _ _ o_a1
        have t47 := ex_19
        refine q_puti (ci := 0) (C := RX0) (T := TX0) (N := 15) hx hb hts (fun w h => List.mem_cons_of_mem _ (mfX00 w h)) hown hK hw m_a1 o_a1 rfl 5 (by decide) (hts _ (List.mem_cons_of_mem _ (mr11 _ (List.mem_of_getElem? (i := 14) rfl)))) (fun _ h => h) tyX0 tyX0_ok nmX0 rfl (ty := .int) (by decide +kernel) rfl rfl dX5_readSpan_50 (fun H locs hw => ?_)
        have oo := o_a1
        obtain ⟨f_21, ef_21⟩ : ∃ g : Nat → va_E, g = pU f_20 a1 5 (.int (iI x_19)) := ⟨_, rfl⟩
        have hX : Ex cy f_20 f_21 := by rw [ef_21]; exact Ex_pU oo rfl rfl (by decide)
        have hg : GI cy L_8 f_21 := by rw [ef_21]; exact hg.putI oo rfl ⟨lx_19, ux_19⟩ trivial
        rw [← ef_21] at hw
        have hE := hE.trans hs (hX.ey.al _)
        have o_a0 := hX.1.1 _ _ o_a0
        have o_a1 := hX.1.1 _ _ o_a1
        have vf_21 : fI f_21 a1 5 = x_19 := by rw [ef_21]; exact fI_pU_self oo rfl ⟨lx_19, ux_19⟩
        have eg50 := ef_21
        have oo50 := oo
        have vg50 := vf_21
        refine lv_aload_n hx hb dX5_readSpan_53 rfl (lv_at hl 2 rfl) ?_
        refine q_geti (ci := 0) (C := RX0) (T := TX0) (N := 15) hx hb hts (fun w h => List.mem_cons_of_mem _ (mfX00 w h)) hown hK hw m_a1 o_a1 rfl 5 (by decide) (hts _ (List.mem_cons_of_mem _ (mr11 _ (List.mem_of_getElem? (i := 14) rfl)))) (fun _ h => h) rfl dX5_readSpan_54 (fun x_22 lx_22 ux_22 ex_22 => ?_)
        refine q_iconst hx hb dX5_readSpan_57 ?_
        refine q_icmp_eq (tgt := 65) hx hb dX5_readSpan_58 (by decide) ⟨lx_22, ux_22⟩ ⟨by decide, by decide⟩ (fun c58 => ?_) (fun c58 => ?_)
        · obtain ⟨w47, q47, qo, q5⟩ := t47.resolve_left (by omega)
          have ol := (ol.oa qo).put eg50
          have q5 : fI f_21 a0 5 = nS Tt nn (tQn Tt nn 5 ee) 1 999 := Eq.trans (by rw [eg50]; exact fI_pU (Or.inl ne01)) q5
          refine q_iconst hx hb dX5_readSpan_65 ?_
          exact q_ret_z hx hb hr hlocks hK hAe hw (by omega) (Nat.le_of_ble_eq_true rfl) (Nat.le_of_ble_eq_true rfl) dX5_readSpan_66 (by (have z := sp_times w3 w12 w35; first | exact ⟨hs, hg, hE, Or.inl ⟨by omega, z.1.trans w47, bg.to z.2.1 z.2.2.1, ol, f5, rt, rs.to z.2.2.2, by unfold SB9; omega⟩⟩ | exact ⟨hs, hg, hE, Or.inr ⟨by omega, by omega, ol, by omega⟩⟩))
        · obtain ⟨w47, q47, l47, u47, qo, qk, rt, rs⟩ := t47.resolve_right (by omega)
          have ol := (ol.oa qo).put eg50
          have f5 : fI f_21 a0 5 = Fq := Eq.trans (by rw [eg50]; exact fI_pU (Or.inl ne01)) (qk.1.trans kx.1)
          have bg := (bg.oa qo oa4 ne10).p5 oo50 ⟨by omega, by omega⟩ eg50 q47
          have rt := rt.other oo50 eg50 ne01
          have rs := rs.other eg50 ne01
          refine q_iconst hx hb dX5_readSpan_61 ?_
          refine lv_goto (tgt := 66) hx hb dX5_readSpan_62 (by decide) ?_
          exact q_ret_z hx hb hr hlocks hK hAe hw (by omega) (Nat.le_of_ble_eq_true rfl) (Nat.le_of_ble_eq_true rfl) dX5_readSpan_66 (by (have z := sp_times w3 w12 w35; first | exact ⟨hs, hg, hE, Or.inl ⟨by omega, z.1.trans w47, bg.to z.2.1 z.2.2.1, ol, f5, rt, rs.to z.2.2.2, by unfold SB9; omega⟩⟩ | exact ⟨hs, hg, hE, Or.inr ⟨by omega, by omega, ol, by omega⟩⟩))
    · obtain ⟨w12, q12, qo, q5⟩ := t12.resolve_left (by omega)
      have ol := ol.oa qo
      refine q_iconst hx hb dX5_readSpan_21 ?_
      exact q_ret_z hx hb hr hlocks hK hAe hw (by omega) (Nat.le_of_ble_eq_true rfl) (Nat.le_of_ble_eq_true rfl) dX5_readSpan_22 (by (have z := sp_date w3 w12; exact ⟨hs, hg, hE, Or.inr ⟨by omega, by omega, ol, by omega⟩⟩))
  · obtain ⟨_, w3, qo, q5⟩ := t3.resolve_left (by omega)
    have ol := ol.oa qo
    refine q_iconst hx hb dX5_readSpan_9 ?_
    exact q_ret_z hx hb hr hlocks hK hAe hw (by omega) (Nat.le_of_ble_eq_true rfl) (Nat.le_of_ble_eq_true rfl) dX5_readSpan_10 (by (have z := sp_from w3; exact ⟨hs, hg, hE, Or.inr ⟨by omega, by omega, ol, by omega⟩⟩))
/-! ===== a text is booked ===== -/
theorem wk_e {T : Int → Int} {n : Int} (k : Nat) : ∀ e s : Int, 0 ≤ e → e ≤ n → 0 ≤ (wkF T n k e s).2.2 ∧ (wkF T n k e s).2.2 ≤ n := by
  induction k with
  | zero => intro e s h0 h1; exact ⟨h0, h1⟩
  | succ k ih =>
    intro e s h0 h1
    have a := tP_b (T := T) h1
    have b := tQ_b (T := T) h1
    show 0 ≤ (if wdv T n e = -1 then ((if s = 0 then 8 * tP T n e + 1 else 0), s, e) else if wb s (wdv T n e) = true then (8 * tP T n e + 2, s, e) else wkF T n k (tQ T n e) (s + p2 (wdv T n e))).2.2 ∧ (if wdv T n e = -1 then ((if s = 0 then 8 * tP T n e + 1 else 0), s, e) else if wb s (wdv T n e) = true then (8 * tP T n e + 2, s, e) else wkF T n k (tQ T n e) (s + p2 (wdv T n e))).2.2 ≤ n
    split
    · exact ⟨h0, h1⟩
    · split
      · exact ⟨h0, h1⟩
      · exact ih _ _ (by omega) (by omega)
theorem p2_tab : ∀ a : Nat, a < 128 → ∀ b : Nat, b < 7 → wb (a : Int) (b : Int) = false → (a : Int) + p2 (b : Int) ≤ 127 ∧ 1 ≤ p2 (b : Int) := by decide +kernel
theorem p2_b {s w : Int} (s0 : 0 ≤ s) (s1 : s ≤ 127) (w0 : 0 ≤ w) (w1 : w ≤ 6) (h : wb s w = false) : s + p2 w ≤ 127 ∧ 1 ≤ p2 w := by
  have t := p2_tab s.toNat (by omega) w.toNat (by omega)
  rw [show ((s.toNat : Nat) : Int) = s by omega, show ((w.toNat : Nat) : Int) = w by omega] at t
  exact t h
theorem wk_b {T : Int → Int} {n : Int} (k : Nat) : ∀ e s : Int, 0 ≤ e → e ≤ n → 0 ≤ s → s ≤ 127 → (1 ≤ s ∨ 0 < k) → (wkF T n k e s).1 = 0 → 1 ≤ (wkF T n k e s).2.1 ∧ (wkF T n k e s).2.1 ≤ 127 := by
  induction k with
  | zero => intro e s h0 h1 s0 s1 c _; exact ⟨by show 1 ≤ s; omega, s1⟩
  | succ k ih =>
    intro e s h0 h1 s0 s1 c
    have a := tP_b (T := T) h1
    have b := tQ_b (T := T) h1
    have wv := wdv_b T n e
    rcases Classical.em (wdv T n e = -1) with q | q
    · rw [wk_stop (Nat.succ_pos k) q]
      intro z
      have z : (if s = 0 then 8 * tP T n e + 1 else 0) = 0 := z
      by_cases y : s = 0
      · rw [if_pos y] at z; omega
      · exact ⟨by show 1 ≤ s; omega, s1⟩
    · cases y : wb s (wdv T n e)
      · rw [wk_go rfl q y]
        have p := p2_b s0 s1 (by omega) (by omega) y
        exact ih _ _ (by omega) (by omega) (by omega) (by omega) (Or.inl (by omega))
      · rw [wk_dup (Nat.succ_pos k) q y]
        intro z
        have z : 8 * tP T n e + 2 = 0 := z
        omega
theorem moE_b {T : Int → Int} {n e : Int} (h0 : 0 ≤ e) (h1 : e ≤ n) : 0 ≤ moE T n e ∧ moE T n e ≤ n := by
  have a := tQn_b (T := T) h0 h1 2
  have b := tQn_b (T := T) h0 h1 3
  unfold moE
  repeat' split
  all_goals omega
theorem ruE_b {T : Int → Int} {n e : Int} (h0 : 0 ≤ e) (h1 : e ≤ n) : 0 ≤ ruE T n e ∧ ruE T n e ≤ n := by
  have a := tQn_b (T := T) h0 h1 1
  have b := tQn_b (T := T) h0 h1 3
  have c := wk_e (T := T) (n := n) 8 (tQn T n 3 e) 0 b.1 b.2
  have d := moE_b (T := T) b.1 b.2
  unfold ruE
  repeat' split
  all_goals omega
theorem spE_b {T : Int → Int} {n e : Int} (h0 : 0 ≤ e) (h1 : e ≤ n) : 0 ≤ spE T n e ∧ spE T n e ≤ n := by
  have a := tQn_b (T := T) h0 h1 4
  have b := tQn_b (T := T) h0 h1 6
  have c := tQn_b (T := T) h0 h1 8
  unfold spE
  repeat' split
  all_goals omega
theorem mo_ok {T : Int → Int} {n e m : Int} (h0 : 0 ≤ e) (h1 : e ≤ n) (m1 : 1 ≤ m) (m2 : m ≤ 999) (h : moF T n e = 0) : okP (moK T n e) m (moV T n e) (moW T n e) := by
  have a := tQn_b (T := T) h0 h1 1
  have b := tQn_b (T := T) h0 h1 2
  have w1 := wdv_b T n (tQn T n 1 e)
  have w2 := wdv_b T n (tQn T n 2 e)
  have p1 := tP_b (T := T) (n := n) a.2
  have p2 := tP_b (T := T) (n := n) b.2
  by_cases c1 : wS T n e wOn = 0
  · obtain ⟨z1, z2, z3, z4, z5⟩ := mo_on c1
    have q := (nS_b (T := T) (n := n) (lo := 1) (hi := 31) a.1 a.2).2 (z1.symm.trans h)
    rw [z2, z3, z4]; exact Or.inr (Or.inr (Or.inr ⟨m1, m2, Or.inl ⟨rfl, q.1, q.2, rfl⟩⟩))
  · by_cases c2 : wS T n e wEnd = 0
    · obtain ⟨z1, z2, z3, z4, z5⟩ := mo_end' c1 c2
      have q := (nS_b (T := T) (n := n) (lo := 1) (hi := 28) a.1 a.2).2 (z1.symm.trans h)
      rw [z2, z3, z4]; exact Or.inr (Or.inr (Or.inr ⟨m1, m2, Or.inr (Or.inl ⟨rfl, q.1, q.2, rfl⟩)⟩))
    · by_cases c3 : wS T n e wNth = 0
      · obtain ⟨z0, z1, z2, z3, z4, z5⟩ := mo_nth c1 c2 c3
        have q := nS_b (T := T) (n := n) (lo := 1) (hi := 5) a.1 a.2
        have k : wdv T n (tQn T n 2 e) ≠ -1 ∧ nS T n (tQn T n 1 e) 1 5 = 0 := by
          by_cases y : nS T n (tQn T n 1 e) 1 5 = 0
          · refine ⟨fun x => ?_, y⟩
            have := z1 y; rw [wdS_n x] at this; omega
          · have := z0 y; omega
        have q2 := q.2 k.2
        clear z0 z1 q
        rw [z2, z3, z4]; exact Or.inr (Or.inr (Or.inr ⟨m1, m2, Or.inr (Or.inr (Or.inl ⟨rfl, q2.1, q2.2, by omega, by omega⟩))⟩))
      · obtain ⟨z0, z1, z2, z3, z4, z5⟩ := mo_last c1 c2 c3
        have k : wdv T n (tQn T n 1 e) ≠ -1 := by
          by_cases y : wS T n e wLast = 0
          · intro x
            have := z1 y; rw [wdS_n x] at this; omega
          · have := z0 y; omega
        clear z0 z1
        rw [z2, z3, z4]; exact Or.inr (Or.inr (Or.inr ⟨m1, m2, Or.inr (Or.inr (Or.inr (Or.inl ⟨rfl, rfl, by omega, by omega⟩)))⟩))
theorem ru_ok {T : Int → Int} {n e : Int} (h0 : 0 ≤ e) (h1 : e ≤ n) (h : ruF T n e = 0) : okP (ruK T n e) (ruN T n e) (ruV T n e) (ruW T n e) := by
  have a := tQn_b (T := T) h0 h1 1
  have b := tQn_b (T := T) h0 h1 3
  by_cases c1 : wS T n e wOnce = 0
  · obtain ⟨z1, z2, z3, z4, z5, z6⟩ := ru_once c1
    rw [z2, z3, z4, z5]; exact Or.inl ⟨rfl, rfl, rfl, rfl⟩
  · by_cases c2 : wS T n e wEvery = 0
    · by_cases c3 : nS T n (tQn T n 1 e) 1 999 = 0
      · have q := (nS_b (T := T) (n := n) (lo := 1) (hi := 999) a.1 a.2).2 c3
        by_cases c4 : wS T n (tQn T n 2 e) wDays = 0
        · obtain ⟨z1, z2, z3, z4, z5, z6⟩ := ru_days c1 c2 c3 c4
          rw [z2, z3, z4, z5]; exact Or.inr (Or.inl ⟨rfl, q.1, q.2, rfl, rfl⟩)
        · by_cases c5 : wS T n (tQn T n 2 e) wYears = 0
          · obtain ⟨z1, z2, z3, z4, z5, z6⟩ := ru_years c1 c2 c3 c4 c5
            rw [z2, z3, z4, z5]; exact Or.inr (Or.inr (Or.inr ⟨q.1, q.2, Or.inr (Or.inr (Or.inr (Or.inr ⟨rfl, rfl, rfl⟩)))⟩))
          · by_cases c6 : wS T n (tQn T n 2 e) wWeeks = 0
            · obtain ⟨z1, z2, z3, z4, z5, z6⟩ := ru_weeks c1 c2 c3 c4 c5 c6
              have w := wk_b (T := T) (n := n) 8 (tQn T n 3 e) 0 b.1 b.2 (by omega) (by omega) (Or.inr (by omega)) (z1.symm.trans h)
              rw [z2, z3, z4, z5]; exact Or.inr (Or.inr (Or.inl ⟨rfl, q.1, q.2, w.1, w.2, rfl⟩))
            · by_cases c7 : wS T n (tQn T n 2 e) wMonths = 0
              · obtain ⟨z1, z2, z3, z4, z5, z6⟩ := ru_months c1 c2 c3 c4 c5 c6 c7
                rw [z2, z3, z4, z5]
                exact mo_ok b.1 b.2 q.1 q.2 (z1.symm.trans h)
              · have := ru_m0 c1 c2 c3 c4 c5 c6 c7; omega
      · have := ru_num c1 c2 c3; omega
    · have := ru_every c1 c2; omega
noncomputable def bE6 (T : Int → Int) (n : Int) : Int := tQn T n 6 0
noncomputable def bE7 (T : Int → Int) (n : Int) : Int := ruE T n (bE6 T n)
noncomputable def bE8 (T : Int → Int) (n : Int) : Int := spE T n (bE7 T n)
noncomputable def bkF (T : Int → Int) (n : Int) : Int := if plF T n 0 ≠ 0 then plF T n 0 else if ruF T n (bE6 T n) ≠ 0 then ruF T n (bE6 T n) else if spF T n (bE7 T n) ≠ 0 then spF T n (bE7 T n) else if tyA T n (tP T n (bE8 T n)) ≠ 0 then 8 * tP T n (bE8 T n) + 1 else 0
theorem bk_0 {T : Int → Int} {n : Int} (h : plF T n 0 ≠ 0) : bkF T n = plF T n 0 := by unfold bkF; rw [if_pos h]
theorem bk_1 {T : Int → Int} {n : Int} (h : plF T n 0 = 0) (g : ruF T n (bE6 T n) ≠ 0) : bkF T n = ruF T n (bE6 T n) := by unfold bkF; rw [if_neg (by omega), if_pos g]
theorem bk_2 {T : Int → Int} {n : Int} (h : plF T n 0 = 0) (g : ruF T n (bE6 T n) = 0) (k : spF T n (bE7 T n) ≠ 0) : bkF T n = spF T n (bE7 T n) := by unfold bkF; rw [if_neg (by omega), if_neg (by omega), if_pos k]
theorem bk_3 {T : Int → Int} {n : Int} (h : plF T n 0 = 0) (g : ruF T n (bE6 T n) = 0) (k : spF T n (bE7 T n) = 0) (t : tyA T n (tP T n (bE8 T n)) ≠ 0) : bkF T n = 8 * tP T n (bE8 T n) + 1 := by unfold bkF; rw [if_neg (by omega), if_neg (by omega), if_neg (by omega), if_pos t]
theorem bk_4 {T : Int → Int} {n : Int} (h : plF T n 0 = 0) (g : ruF T n (bE6 T n) = 0) (k : spF T n (bE7 T n) = 0) (t : tyA T n (tP T n (bE8 T n)) = 0) : bkF T n = 0 := by unfold bkF; rw [if_neg (by omega), if_neg (by omega), if_neg (by omega), if_neg (by omega)]
/-- the words of what is booked, as the reference's row has them -/
noncomputable def bkW (T : Int → Int) (n j : Int) : Int :=
  if j = 0 then vN T n (tQn T n 1 0) else if j = 1 then vN T n (tQn T n 3 0) else if j = 2 then vN T n (tQn T n 5 0) else
  if j = 3 then ruK T n (bE6 T n) else if j = 4 then ruN T n (bE6 T n) else if j = 5 then daV T n (tQn T n 1 (bE7 T n)) else
  if j = 6 then rfV (ruK T n (bE6 T n)) (ruV T n (bE6 T n)) (ruW T n (bE6 T n)) else if j = 7 then rfW (ruK T n (bE6 T n)) (ruW T n (bE6 T n)) else
  if j = 8 then spU T n (bE7 T n) else if j = 9 then spT T n (bE7 T n) else daV T n (tQn T n 1 (bE7 T n))
theorem bkW_0 {T : Int → Int} {n : Int} : bkW T n (0) = vN T n (tQn T n 1 0) := by unfold bkW; rw [if_pos (by decide)]
theorem bkW_1 {T : Int → Int} {n : Int} : bkW T n (0 + 1) = vN T n (tQn T n 3 0) := by unfold bkW; rw [if_neg (by decide), if_pos (by decide)]
theorem bkW_2 {T : Int → Int} {n : Int} : bkW T n (0 + 2) = vN T n (tQn T n 5 0) := by unfold bkW; rw [if_neg (by decide), if_neg (by decide), if_pos (by decide)]
theorem bkW_3 {T : Int → Int} {n : Int} : bkW T n (0 + 3) = ruK T n (bE6 T n) := by unfold bkW; rw [if_neg (by decide), if_neg (by decide), if_neg (by decide), if_pos (by decide)]
theorem bkW_4 {T : Int → Int} {n : Int} : bkW T n (0 + 4) = ruN T n (bE6 T n) := by unfold bkW; rw [if_neg (by decide), if_neg (by decide), if_neg (by decide), if_neg (by decide), if_pos (by decide)]
theorem bkW_5 {T : Int → Int} {n : Int} : bkW T n (0 + 5) = daV T n (tQn T n 1 (bE7 T n)) := by unfold bkW; rw [if_neg (by decide), if_neg (by decide), if_neg (by decide), if_neg (by decide), if_neg (by decide), if_pos (by decide)]
theorem bkW_6 {T : Int → Int} {n : Int} : bkW T n (0 + 6) = rfV (ruK T n (bE6 T n)) (ruV T n (bE6 T n)) (ruW T n (bE6 T n)) := by unfold bkW; rw [if_neg (by decide), if_neg (by decide), if_neg (by decide), if_neg (by decide), if_neg (by decide), if_neg (by decide), if_pos (by decide)]
theorem bkW_7 {T : Int → Int} {n : Int} : bkW T n (0 + 7) = rfW (ruK T n (bE6 T n)) (ruW T n (bE6 T n)) := by unfold bkW; rw [if_neg (by decide), if_neg (by decide), if_neg (by decide), if_neg (by decide), if_neg (by decide), if_neg (by decide), if_neg (by decide), if_pos (by decide)]
theorem bkW_8 {T : Int → Int} {n : Int} : bkW T n (0 + 8) = spU T n (bE7 T n) := by unfold bkW; rw [if_neg (by decide), if_neg (by decide), if_neg (by decide), if_neg (by decide), if_neg (by decide), if_neg (by decide), if_neg (by decide), if_neg (by decide), if_pos (by decide)]
theorem bkW_9 {T : Int → Int} {n : Int} : bkW T n (0 + 9) = spT T n (bE7 T n) := by unfold bkW; rw [if_neg (by decide), if_neg (by decide), if_neg (by decide), if_neg (by decide), if_neg (by decide), if_neg (by decide), if_neg (by decide), if_neg (by decide), if_neg (by decide), if_pos (by decide)]
theorem bkW_10 {T : Int → Int} {n : Int} : bkW T n (0 + 10) = daV T n (tQn T n 1 (bE7 T n)) := by unfold bkW; rw [if_neg (by decide), if_neg (by decide), if_neg (by decide), if_neg (by decide), if_neg (by decide), if_neg (by decide), if_neg (by decide), if_neg (by decide), if_neg (by decide), if_neg (by decide)]
theorem bk_RW {T : Int → Int} {n : Int} {f0 f : Nat → va_E} {b : Nat} (r0 : fI f0 b 0 = vN T n (tQn T n 1 0)) (r1 : fI f0 b 1 = vN T n (tQn T n 3 0)) (r2 : fI f0 b 2 = vN T n (tQn T n 5 0)) (rb : 0 ≤ vN T n (tQn T n 1 0) ∧ vN T n (tQn T n 1 0) ≤ 7) (bg : BG f0 f b (ruK T n (bE6 T n)) (ruN T n (bE6 T n)) (daV T n (tQn T n 1 (bE7 T n))) (rfV (ruK T n (bE6 T n)) (ruV T n (bE6 T n)) (ruW T n (bE6 T n))) (rfW (ruK T n (bE6 T n)) (ruW T n (bE6 T n))) (spU T n (bE7 T n)) (spT T n (bE7 T n))) (sb : SB9 (daV T n (tQn T n 1 (bE7 T n))) (spU T n (bE7 T n)) (spT T n (bE7 T n))) : RW f b (bkW T n) 0 := by
  obtain ⟨h0, h1, h2, ⟨r, hn, hr, hk⟩, h4, h5, h6⟩ := bg
  unfold RW GB
  rw [bkW_0, bkW_1, bkW_2, bkW_3, bkW_4, bkW_5, bkW_6, bkW_7, bkW_8, bkW_9, bkW_10]
  exact ⟨⟨h0.trans r0, h1.trans r1, h2.trans r2, h4, h5, h6⟩, ⟨r, hr, hk⟩, rb.1, rb.2, sb.2.2.1, sb.2.2.2, Int.le_refl _, sb.2.1⟩
theorem OL.st {L : List Nat} {f g h : Nat → va_E} {a b : Nat} (x : OL L f g a b) (y : SeT g h b) : OL L f h a b := fun z m q r => (y.1 z r).trans (x z m q r)
theorem OL.ol {L : List Nat} {f g h : Nat → va_E} {a b : Nat} (x : OL L f g a b) (y : OL L g h a b) : OL L f h a b := fun z m q r => (y z m q r).trans (x z m q r)
theorem pl_room {T : Int → Int} {n : Int} (hn : 0 ≤ n) (h : plF T n 0 = 0) : 0 ≤ vN T n (tQn T n 1 0) ∧ vN T n (tQn T n 1 0) ≤ 7 := by
  have k : nS T n (tQn T n 1 0) 0 7 = 0 := by
    by_cases c : wS T n 0 wBook = 0
    · by_cases d : nS T n (tQn T n 1 0) 0 7 = 0
      · exact d
      · have := plF_1 c d; omega
    · have := plF_0 c; omega
  have b := tQn_b (T := T) (n := n) (e := 0) (by omega) hn 1
  exact (nS_b b.1 b.2).2 k
set_option maxHeartbeats 4000000 in
set_option maxRecDepth 100000 in
theorem c_X5_read_p {Z : Zt} (zo : Zok Z) (l : Launch) (D : va_G) (cy : Cy) (L0 : List Nat) (f0 : Nat → va_E) (a0 : Nat) (a1 : Nat) (m_a0 : a0 ∈ L0) (o_a0 : Ob f0 a0 4) (m_a1 : a1 ∈ L0) (o_a1 : Ob f0 a1 0) (hg : GI cy L0 f0) (Tt : Int → Int) (nn : Int) (tp : Nat) (rt : RT Tt nn f0 a0 tp) (z4 : fI f0 a0 4 = 0) (kx : K69 f0 a0 0 0 0 0 0) : Ci Z l yX5_read (Cond.code yX5_read cX5_read 2 (some .int) :: TB) ({ frames := 9, cells := 1, slots := 7, locals := 191 } : Room) 1 7 D (tq cy) [.ref a0, .ref a1] L0 f0 (fun (r : Int) (L1 : List Nat) (f1 : Nat → va_E) => (∀ x ∈ L0, x ∈ L1) ∧ GI cy L1 f1 ∧ Al cy L0 f0 f1 ∧ ((r = 0 ∧ bkF Tt nn = 0 ∧ RB f1 a1 (bkW Tt nn) 0 ∧ OL L0 f0 f1 a0 a1) ∨ (r ≠ 0 ∧ r = bkF Tt nn ∧ OL L0 f0 f1 a0 a1))) := by
  refine Ci.enter (cc := cX5_read) (n := 2) rfl (plainFor_of_name (by decide)) (Nat.le_of_ble_eq_true rfl) ?_
  intro p e s m below meth c ls A hx hb hr hts hown hlocks hnm hml hK hA hAe hw hZ hl
  have hown : s.vm.findClass RX5 = some m.cls := hown
  have hl : lv_has ls 2 [(0, .ref a0), (1, .ref a1)] := hl
  have hN : ZN s := (zo.2.2.2.2 _ _ _ hZ).2
  have hs : ∀ x ∈ L0, x ∈ L0 := fun _ h => h
  have hE : Al cy L0 f0 f0 := Al.refl cy L0 f0
  have nb0 := rt.2.2.1
  have nb1 := rt.2.2.2.1
  have ne01 : a0 ≠ a1 := fun z => by rw [z] at o_a0; exact absurd (o_a0.uniq o_a1) (by decide)
  have ne10 := ne01.symm
  have ol := OL.refl L0 f0 a0 a1
  have oa1 := o_a1
  have b6 : 0 ≤ bE6 Tt nn ∧ bE6 Tt nn ≤ nn := tQn_b (T := Tt) (by omega) (by omega) 6
  have b7 : 0 ≤ bE7 Tt nn ∧ bE7 Tt nn ≤ nn := ruE_b b6.1 b6.2
  have b8 : 0 ≤ bE8 Tt nn ∧ bE8 Tt nn ≤ nn := spE_b b7.1 b7.2
  have p8 := tP_b (T := Tt) b8.2
  have n1b := tQn_b (T := Tt) (n := nn) (e := 0) (by omega) (by omega) 1
  have ty8 := tyA_b Tt nn (tP Tt nn (bE8 Tt nn))
  refine lv_aload_n hx hb dX5_read_0 rfl (lv_at hl 0 rfl) ?_
  refine q_call_v hA hK hw (va_runV (As := []) (rest := []) ⟨hx, hb, hml, hown, hts⟩ (c_X5_step_p zo l D cy L0 f0 a0 m_a0 o_a0 hg Tt nn tp rt (by omega) (by omega) _) (cwV 0 hts (gT (inV (mr7 _ (List.mem_of_getElem? (i := 2) rfl)) (mr7 _ (List.mem_of_getElem? (i := 3) rfl)) (mr7 _ (List.mem_of_getElem? (i := 4) rfl)) (mr5 _ (List.mem_of_getElem? (i := 18) rfl)) (mr7 _ (List.mem_of_getElem? (i := 5) rfl)))) rfl rfl rfl (by decide +kernel) ⟨Nat.le_of_ble_eq_true rfl, Nat.le_of_ble_eq_true rfl⟩) (Wd.preV zo hA hZ hw hK m_a0 o_a0 rfl) rfl rfl hl.1 rfl (lv_room (Nat.le_of_ble_eq_true rfl)) dX5_read_1 ⟨Nat.le_of_ble_eq_true rfl, Nat.le_of_ble_eq_true rfl⟩) (fun L1 f_2 H locs ex_1 hw => ?_)
  obtain ⟨rfl, hg, hX, ex_1⟩ := ex_1
  have hE := hE.trans hs (hX.ey.al _)
  have o_a0 := hX.1.1 _ _ o_a0
  have o_a1 := hX.1.1 _ _ o_a1
  have n9 := ex_1
  rw [z4] at n9
  have ol := ol.oa n9.1
  have kx := kx.k5 n9.2.1
  have rt := n9.2.2.1
  have rs := n9.2.2.2
  refine lv_aload_n hx hb dX5_read_4 rfl (lv_at hl 0 rfl) ?_
  refine lv_aload_n hx hb dX5_read_5 rfl (lv_at hl 1 rfl) ?_
  refine q_call_i hA hK hw (va_runV (As := [.ref a1]) (rest := []) ⟨hx, hb, hml, hown, hts⟩ (c_X5_readPlace_p zo l D cy L0 f_2 a0 a1 m_a0 o_a0 m_a1 o_a1 hg Tt nn tp rt 0 rs (by omega) (by omega) _) (cwV 1 hts (gT (inV (mr7 _ (List.mem_of_getElem? (i := 10) rfl)) (mr7 _ (List.mem_of_getElem? (i := 11) rfl)) (mr7 _ (List.mem_of_getElem? (i := 12) rfl)) (mr5 _ (List.mem_of_getElem? (i := 18) rfl)) (mr7 _ (List.mem_of_getElem? (i := 13) rfl)))) rfl rfl rfl (by decide +kernel) ⟨Nat.le_of_ble_eq_true rfl, Nat.le_of_ble_eq_true rfl⟩) (Wd.preV zo hA hZ hw hK m_a0 o_a0 rfl) rfl rfl hl.1 rfl (lv_room (Nat.le_of_ble_eq_true rfl)) dX5_read_6 ⟨Nat.le_of_ble_eq_true rfl, Nat.le_of_ble_eq_true rfl⟩) (fun x_3 L1 f_4 H locs lx_3 ux_3 ex_3 hw => ?_)
  obtain ⟨rfl, hg, hX, ex_3⟩ := ex_3
  have hE := hE.trans hs (hX.ey.al _)
  have o_a0 := hX.1.1 _ _ o_a0
  have o_a1 := hX.1.1 _ _ o_a1
  have t6 := ex_3
  refine q_if_eq (tgt := 47) hx hb dX5_read_9 (by decide) ⟨lx_3, ux_3⟩ (fun c9 => ?_) (fun c9 => ?_)
  · obtain ⟨_, qob, w6, q5⟩ := t6.resolve_left (by omega)
    have ol := ol.ob qob
    refine lv_aload_n hx hb dX5_read_47 rfl (lv_at hl 0 rfl) ?_
    refine q_geti (ci := 4) (C := RX5) (T := TX5) (N := 10) hx hb hts (fun w h => List.mem_cons_of_mem _ (mfX50 w h)) hown hK hw m_a0 o_a0 rfl 5 (by decide) (hts _ (List.mem_cons_of_mem _ (mr6 _ (List.mem_of_getElem? (i := 6) rfl)))) (fun _ h => h) rfl dX5_read_48 (fun x_5 lx_5 ux_5 ex_5 => ?_)
    exact q_ret_i hx hb hr hlocks hK hAe hw ⟨lx_5, ux_5⟩ (Nat.le_of_ble_eq_true rfl) (Nat.le_of_ble_eq_true rfl) dX5_read_51 (by first | (have z := bk_0 w6; exact ⟨hs, hg, hE, Or.inr ⟨by omega, by omega, ol⟩⟩) | (have z := bk_1 w6 w13; exact ⟨hs, hg, hE, Or.inr ⟨by omega, by omega, ol⟩⟩) | (have z := bk_2 w6 w13 w21; exact ⟨hs, hg, hE, Or.inr ⟨by omega, by omega, ol⟩⟩) | (have z := bk_3 w6 w13 w21 (by omega); exact ⟨hs, hg, hE, Or.inr ⟨by omega, by omega, ol⟩⟩) | (have z := bk_4 w6 w13 w21 (by omega); exact ⟨hs, hg, hE, Or.inl ⟨by omega, z, rb, ol⟩⟩))
  · obtain ⟨_, w6, rm, mi, ln, qob, qk, rt, rs⟩ := t6.resolve_right (by omega)
    have ol := ol.ob qob
    have kx : K69 f_4 a0 0 0 0 0 0 := kx.k5 qk
    refine lv_aload_n hx hb dX5_read_12 rfl (lv_at hl 0 rfl) ?_
    refine q_call_i hA hK hw (va_runV (As := []) (rest := []) ⟨hx, hb, hml, hown, hts⟩ (c_X5_readRule_p zo l D cy L0 f_4 a0 m_a0 o_a0 hg Tt nn tp rt (bE6 Tt nn) rs (by omega) (by omega) 0 kx _) (cwV 0 hts (gT (inV (mr10 _ (List.mem_of_getElem? (i := 14) rfl)) (mr10 _ (List.mem_of_getElem? (i := 15) rfl)) (mr10 _ (List.mem_of_getElem? (i := 16) rfl)) (mr5 _ (List.mem_of_getElem? (i := 18) rfl)) (mr10 _ (List.mem_of_getElem? (i := 17) rfl)))) rfl rfl rfl (by decide +kernel) ⟨Nat.le_of_ble_eq_true rfl, Nat.le_of_ble_eq_true rfl⟩) (Wd.preV zo hA hZ hw hK m_a0 o_a0 rfl) rfl rfl hl.1 rfl (lv_room (Nat.le_of_ble_eq_true rfl)) dX5_read_13 ⟨Nat.le_of_ble_eq_true rfl, Nat.le_of_ble_eq_true rfl⟩) (fun x_6 L1 f_7 H locs lx_6 ux_6 ex_6 hw => ?_)
    obtain ⟨rfl, hg, hX, ex_6⟩ := ex_6
    have hE := hE.trans hs (hX.ey.al _)
    have o_a0 := hX.1.1 _ _ o_a0
    have o_a1 := hX.1.1 _ _ o_a1
    have t13 := ex_6
    refine q_if_eq (tgt := 47) hx hb dX5_read_16 (by decide) ⟨lx_6, ux_6⟩ (fun c16 => ?_) (fun c16 => ?_)
    · obtain ⟨_, w13, qo, q5⟩ := t13.resolve_left (by omega)
      have ol := ol.oa qo
      refine lv_aload_n hx hb dX5_read_47 rfl (lv_at hl 0 rfl) ?_
      refine q_geti (ci := 4) (C := RX5) (T := TX5) (N := 10) hx hb hts (fun w h => List.mem_cons_of_mem _ (mfX50 w h)) hown hK hw m_a0 o_a0 rfl 5 (by decide) (hts _ (List.mem_cons_of_mem _ (mr6 _ (List.mem_of_getElem? (i := 6) rfl)))) (fun _ h => h) rfl dX5_read_48 (fun x_8 lx_8 ux_8 ex_8 => ?_)
      exact q_ret_i hx hb hr hlocks hK hAe hw ⟨lx_8, ux_8⟩ (Nat.le_of_ble_eq_true rfl) (Nat.le_of_ble_eq_true rfl) dX5_read_51 (by first | (have z := bk_0 w6; exact ⟨hs, hg, hE, Or.inr ⟨by omega, by omega, ol⟩⟩) | (have z := bk_1 w6 w13; exact ⟨hs, hg, hE, Or.inr ⟨by omega, by omega, ol⟩⟩) | (have z := bk_2 w6 w13 w21; exact ⟨hs, hg, hE, Or.inr ⟨by omega, by omega, ol⟩⟩) | (have z := bk_3 w6 w13 w21 (by omega); exact ⟨hs, hg, hE, Or.inr ⟨by omega, by omega, ol⟩⟩) | (have z := bk_4 w6 w13 w21 (by omega); exact ⟨hs, hg, hE, Or.inl ⟨by omega, z, rb, ol⟩⟩))
    · obtain ⟨_, w13, qo, kx, rt, rs⟩ := t13.resolve_right (by omega)
      have ol := ol.oa qo
      have rm := (fI_oa qo ne10 0).trans rm
      have mi := (fI_oa qo ne10 1).trans mi
      have ln := (fI_oa qo ne10 2).trans ln
      have okp := ru_ok b6.1 b6.2 w13
      refine lv_aload_n hx hb dX5_read_19 rfl (lv_at hl 0 rfl) ?_
      refine lv_aload_n hx hb dX5_read_20 rfl (lv_at hl 1 rfl) ?_
      refine q_call_i hA hK hw (va_runV (As := [.ref a1]) (rest := []) ⟨hx, hb, hml, hown, hts⟩ (c_X5_readSpan_p zo l D cy L0 f_7 a0 a1 m_a0 o_a0 m_a1 o_a1 hg Tt nn tp rt (bE7 Tt nn) rs (by omega) (by omega) 0 (ruK Tt nn (bE6 Tt nn)) (ruN Tt nn (bE6 Tt nn)) (ruV Tt nn (bE6 Tt nn)) (ruW Tt nn (bE6 Tt nn)) kx okp _) (cwV 1 hts (gT (inV (mr11 _ (List.mem_of_getElem? (i := 10) rfl)) (mr11 _ (List.mem_of_getElem? (i := 11) rfl)) (mr11 _ (List.mem_of_getElem? (i := 12) rfl)) (mr5 _ (List.mem_of_getElem? (i := 18) rfl)) (mr11 _ (List.mem_of_getElem? (i := 13) rfl)))) rfl rfl rfl (by decide +kernel) ⟨Nat.le_of_ble_eq_true rfl, Nat.le_of_ble_eq_true rfl⟩) (Wd.preV zo hA hZ hw hK m_a0 o_a0 rfl) rfl rfl hl.1 rfl (lv_room (Nat.le_of_ble_eq_true rfl)) dX5_read_21 ⟨Nat.le_of_ble_eq_true rfl, Nat.le_of_ble_eq_true rfl⟩) (fun x_9 L_11 f_10 H locs lx_9 ux_9 ex_9 hw => ?_)
      obtain ⟨hs1, hg, hX, ex_9⟩ := ex_9
      have hE := hE.trans hs (hX)
      have o_a0 := hX.1 _ m_a0 _ o_a0
      have o_a1 := hX.1 _ m_a1 _ o_a1
      have m_a0 := hs1 _ m_a0
      have m_a1 := hs1 _ m_a1
      have hs : ∀ x ∈ L0, x ∈ L_11 := fun x h => hs1 x (hs x h)
      have t21 := ex_9
      refine q_if_eq (tgt := 47) hx hb dX5_read_24 (by decide) ⟨lx_9, ux_9⟩ (fun c24 => ?_) (fun c24 => ?_)
      · obtain ⟨_, w21, qol, q5⟩ := t21.resolve_left (by omega)
        have ol := ol.ol qol
        refine lv_aload_n hx hb dX5_read_47 rfl (lv_at hl 0 rfl) ?_
        refine q_geti (ci := 4) (C := RX5) (T := TX5) (N := 10) hx hb hts (fun w h => List.mem_cons_of_mem _ (mfX50 w h)) hown hK hw m_a0 o_a0 rfl 5 (by decide) (hts _ (List.mem_cons_of_mem _ (mr6 _ (List.mem_of_getElem? (i := 6) rfl)))) (fun _ h => h) rfl dX5_read_48 (fun x_12 lx_12 ux_12 ex_12 => ?_)
        exact q_ret_i hx hb hr hlocks hK hAe hw ⟨lx_12, ux_12⟩ (Nat.le_of_ble_eq_true rfl) (Nat.le_of_ble_eq_true rfl) dX5_read_51 (by first | (have z := bk_0 w6; exact ⟨hs, hg, hE, Or.inr ⟨by omega, by omega, ol⟩⟩) | (have z := bk_1 w6 w13; exact ⟨hs, hg, hE, Or.inr ⟨by omega, by omega, ol⟩⟩) | (have z := bk_2 w6 w13 w21; exact ⟨hs, hg, hE, Or.inr ⟨by omega, by omega, ol⟩⟩) | (have z := bk_3 w6 w13 w21 (by omega); exact ⟨hs, hg, hE, Or.inr ⟨by omega, by omega, ol⟩⟩) | (have z := bk_4 w6 w13 w21 (by omega); exact ⟨hs, hg, hE, Or.inl ⟨by omega, z, rb, ol⟩⟩))
      · obtain ⟨_, w21, bg, qol, f5, rt, rs, sb⟩ := t21.resolve_right (by omega)
        have ol := ol.ol qol
        have rm9 := pl_room nb0 w6
        have rs1 : fI f_10 a0 2 = tyA Tt nn (tP Tt nn (bE8 Tt nn)) := rs.1
        have rs2 : fI f_10 a0 3 = tP Tt nn (bE8 Tt nn) := rs.2.1
        refine lv_aload_n hx hb dX5_read_27 rfl (lv_at hl 0 rfl) ?_
        refine q_geti (ci := 4) (C := RX5) (T := TX5) (N := 10) hx hb hts (fun w h => List.mem_cons_of_mem _ (mfX50 w h)) hown hK hw m_a0 o_a0 rfl 2 (by decide) (hts _ (List.mem_cons_of_mem _ (mr6 _ (List.mem_of_getElem? (i := 3) rfl)))) (fun _ h => h) rfl dX5_read_28 (fun x_13 lx_13 ux_13 ex_13 => ?_)
        refine q_if_ne (tgt := 41) hx hb dX5_read_31 (by decide) ⟨lx_13, ux_13⟩ (fun c31 => ?_) (fun c31 => ?_)
        · refine lv_aload_n hx hb dX5_read_41 rfl (lv_at hl 0 rfl) ?_
          refine q_iconst hx hb dX5_read_42 ?_
          refine q_call_i hA hK hw (va_runV (As := [.int (iI 1)]) (rest := []) ⟨hx, hb, hml, hown, hts⟩ (c_X5_refuse_p zo l D cy L_11 f_10 a0 1 (by decide) (by decide) m_a0 o_a0 hg (by omega) (by omega) (by omega) (by omega) _) (cwV 1 hts (gT (inV (mr10 _ (List.mem_of_getElem? (i := 6) rfl)) (mr10 _ (List.mem_of_getElem? (i := 7) rfl)) (mr10 _ (List.mem_of_getElem? (i := 8) rfl)) (mr5 _ (List.mem_of_getElem? (i := 18) rfl)) (mr10 _ (List.mem_of_getElem? (i := 9) rfl)))) rfl rfl rfl (by decide +kernel) ⟨Nat.le_of_ble_eq_true rfl, Nat.le_of_ble_eq_true rfl⟩) (Wd.preV zo hA hZ hw hK m_a0 o_a0 rfl) rfl rfl hl.1 rfl (lv_room (Nat.le_of_ble_eq_true rfl)) dX5_read_43 ⟨Nat.le_of_ble_eq_true rfl, Nat.le_of_ble_eq_true rfl⟩) (fun x_14 L1 f_15 H locs lx_14 ux_14 ex_14 hw => ?_)
          obtain ⟨rfl, hg, hX, ex_14⟩ := ex_14
          have hE := hE.trans hs (hX.ey.al _)
          have o_a0 := hX.1.1 _ _ o_a0
          have o_a1 := hX.1.1 _ _ o_a1
          have t43 := ex_14
          have ol := ol.oa t43.2.1
          refine lv_pop hx hb dX5_read_46 rfl ?_
          refine lv_aload_n hx hb dX5_read_47 rfl (lv_at hl 0 rfl) ?_
          refine q_geti (ci := 4) (C := RX5) (T := TX5) (N := 10) hx hb hts (fun w h => List.mem_cons_of_mem _ (mfX50 w h)) hown hK hw m_a0 o_a0 rfl 5 (by decide) (hts _ (List.mem_cons_of_mem _ (mr6 _ (List.mem_of_getElem? (i := 6) rfl)))) (fun _ h => h) rfl dX5_read_48 (fun x_16 lx_16 ux_16 ex_16 => ?_)
          exact q_ret_i hx hb hr hlocks hK hAe hw ⟨lx_16, ux_16⟩ (Nat.le_of_ble_eq_true rfl) (Nat.le_of_ble_eq_true rfl) dX5_read_51 (by first | (have z := bk_0 w6; exact ⟨hs, hg, hE, Or.inr ⟨by omega, by omega, ol⟩⟩) | (have z := bk_1 w6 w13; exact ⟨hs, hg, hE, Or.inr ⟨by omega, by omega, ol⟩⟩) | (have z := bk_2 w6 w13 w21; exact ⟨hs, hg, hE, Or.inr ⟨by omega, by omega, ol⟩⟩) | (have z := bk_3 w6 w13 w21 (by omega); exact ⟨hs, hg, hE, Or.inr ⟨by omega, by omega, ol⟩⟩) | (have z := bk_4 w6 w13 w21 (by omega); exact ⟨hs, hg, hE, Or.inl ⟨by omega, z, rb, ol⟩⟩))
        · have rw9 := bk_RW rm mi ln rm9 bg sb
          refine lv_aload_n hx hb dX5_read_34 rfl (lv_at hl 1 rfl) ?_
          refine q_call_v hA hK hw (va_runV (As := []) (rest := []) ⟨hx, hb, hml, hown, hts⟩ (c_X0_settle_g zo l D cy L_11 f_10 a1 m_a1 o_a1 hg (bkW Tt nn) 0 rw9 _) (cwV 0 hts (gT (inV (mr14 _ (List.mem_of_getElem? (i := 15) rfl)) (mr14 _ (List.mem_of_getElem? (i := 16) rfl)) (mr14 _ (List.mem_of_getElem? (i := 17) rfl)) (mr2 _ (List.mem_of_getElem? (i := 9) rfl)) (mr14 _ (List.mem_of_getElem? (i := 18) rfl)))) rfl rfl rfl (by decide +kernel) ⟨Nat.le_of_ble_eq_true rfl, Nat.le_of_ble_eq_true rfl⟩) (Wd.preV zo hA hZ hw hK m_a1 o_a1 rfl) rfl rfl hl.1 rfl (lv_room (Nat.le_of_ble_eq_true rfl)) dX5_read_35 ⟨Nat.le_of_ble_eq_true rfl, Nat.le_of_ble_eq_true rfl⟩) (fun L1 f_18 H locs ex_17 hw => ?_)
          obtain ⟨rfl, hg, hX, ex_17⟩ := ex_17
          have hE := hE.trans hs (hX.ey.al _)
          have o_a0 := hX.1.1 _ _ o_a0
          have o_a1 := hX.1.1 _ _ o_a1
          obtain ⟨st, rb⟩ := ex_17
          have ol := OL.st ol st
          have f5 : fI f_18 a0 5 = 0 := (fI_of (st.1 a0 ne01)).trans f5
          refine lv_goto (tgt := 47) hx hb dX5_read_38 (by decide) ?_
          refine lv_aload_n hx hb dX5_read_47 rfl (lv_at hl 0 rfl) ?_
          refine q_geti (ci := 4) (C := RX5) (T := TX5) (N := 10) hx hb hts (fun w h => List.mem_cons_of_mem _ (mfX50 w h)) hown hK hw m_a0 o_a0 rfl 5 (by decide) (hts _ (List.mem_cons_of_mem _ (mr6 _ (List.mem_of_getElem? (i := 6) rfl)))) (fun _ h => h) rfl dX5_read_48 (fun x_19 lx_19 ux_19 ex_19 => ?_)
          exact q_ret_i hx hb hr hlocks hK hAe hw ⟨lx_19, ux_19⟩ (Nat.le_of_ble_eq_true rfl) (Nat.le_of_ble_eq_true rfl) dX5_read_51 (by first | (have z := bk_0 w6; exact ⟨hs, hg, hE, Or.inr ⟨by omega, by omega, ol⟩⟩) | (have z := bk_1 w6 w13; exact ⟨hs, hg, hE, Or.inr ⟨by omega, by omega, ol⟩⟩) | (have z := bk_2 w6 w13 w21; exact ⟨hs, hg, hE, Or.inr ⟨by omega, by omega, ol⟩⟩) | (have z := bk_3 w6 w13 w21 (by omega); exact ⟨hs, hg, hE, Or.inr ⟨by omega, by omega, ol⟩⟩) | (have z := bk_4 w6 w13 w21 (by omega); exact ⟨hs, hg, hE, Or.inl ⟨by omega, z, rb, ol⟩⟩))
/-! ===== the BookIndex books ===== -/
theorem RB.offA {cy : Cy} {M : List Nat} {f g : Nat → va_E} {b x : Nat} {h : Int → Int} {p : Int} (r : RB f b h p) (hg : GI cy M f) (mb : b ∈ M) (ob : Ob f b 0) (ox : Ob f x 7) (e : ∀ y ∈ M, y ≠ x → g y = f y) : RB g b h p := by
  have nb : b ≠ x := fun z => by rw [z] at ob; exact absurd (ob.uniq ox) (by decide)
  have eb := e b mb nb
  obtain ⟨⟨w, ⟨q, er, rk⟩, gb⟩, bd, tt⟩ := r
  obtain ⟨r, r1, r2, r3⟩ := (show ∃ r, fR f b 3 = some r ∧ r ∈ M ∧ Rl f r from hg.2.1 _ mb 0 3 ob)
  have rq : r = q := Option.some.inj (r1.symm.trans er)
  rw [rq] at r2
  have nq : q ≠ x := fun z => by
    have := rk.rl
    rw [z] at this
    rcases this with o | o | o | o <;> exact absurd (ox.uniq o) (by decide)
  unfold RB RW
  rw [fI_of eb, fI_of eb, fI_of eb, fI_of eb, fI_of eb, fI_of eb, fI_of eb, fI_of eb, fI_of eb, fR_of eb]
  exact ⟨⟨w, ⟨q, er, rk.of (e q r2 nq)⟩, gb⟩, bd, tt⟩
theorem SX.offA {cy : Cy} {M : List Nat} {f g : Nat → va_E} {x : Nat} {rq : Int → Nat} {h : Int → Int} {m : Int} (sx : SX f x rq h m) (hg : GI cy M f) (mx : x ∈ M) (ox : Ob f x 7) (e : ∀ y ∈ M, y ≠ x → g y = f y) (e2 : fV g x 2 = fV f x 2) : SX g x rq h m := by
  obtain ⟨sh, es, sr, m0, m1⟩ := sx
  obtain ⟨ms, o5⟩ := shelf_in hg mx ox es
  obtain ⟨a, ea, ma, oa, ha⟩ := rows_of hg ms sr.1
  obtain ⟨⟨-, -, ho, hi⟩, hs, hb⟩ := sr
  have ns : sh ≠ x := fun z => by rw [z] at o5; exact absurd (o5.uniq ox) (by decide)
  have na : a ≠ x := fun z => by rw [z] at oa; exact ox.notR oa
  have nb : ∀ i : Int, 0 ≤ i → i < 12 → rq i ≠ x := fun i i0 i1 z => by have := ho i i0 i1; rw [z] at this; exact absurd (this.uniq ox) (by decide)
  refine ⟨sh, (fR_W e2).trans es, ⟨⟨Ob_of (e sh ms ns) o5, ⟨a, (fR_of (e sh ms ns)).trans ea, fun i i0 i1 => (aR_of (e a ma na)).trans (ha i i0 i1).1⟩, fun i i0 i1 => Ob_of (e _ (ha i i0 i1).2 (nb i i0 i1)) (ho i i0 i1), hi⟩, (fI_of (e sh ms ns)).trans hs, fun i i0 i1 => (hb i i0 i1).offA hg (ha i i0 (by omega)).2 (ho i i0 (by omega)) ox e⟩, m0, m1⟩
theorem tape_in {cy : Cy} {M : List Nat} {f : Nat → va_E} {x tp : Nat} (hg : GI cy M f) (mx : x ∈ M) (ox : Ob f x 7) (e : fR f x 0 = some tp) : tp ∈ M ∧ ArI f tp cy.1 168 := by
  obtain ⟨r, r1, r2, r3⟩ := (show ∃ r, fR f x 0 = some r ∧ r ∈ M ∧ ArI f r cy.1 168 from hg.2.1 _ mx 7 0 ox)
  rw [← Option.some.inj (r1.symm.trans e)]
  exact ⟨r2, r3⟩
theorem rtq {f f7 f0 : Nat → va_E} {q tp r : Nat} {T : Int → Int} {x n : Int} (e0 : fR f q 0 = some r) (er : r = tp) (e1 : fI f q 1 = x) (ex : x = n) (n0 : 0 ≤ n) (n1 : n ≤ 160) (hT : ∀ i : Int, 0 ≤ i → i < 168 → aI f0 tp i = T i) (h1 : f tp = f7 tp) (h2 : f7 tp = f0 tp) (ne : q ≠ tp) : RT T n f q tp := by
  refine ⟨by rw [← er]; exact e0, e1.trans ex, n0, n1, ne, fun i i0 i1 => ?_⟩
  have : aI f tp i = aI f0 tp i := by unfold aI; rw [h1, h2]
  rw [this]; exact hT i i0 i1
theorem wS_u {T : Int → Int} {n e : Int} {b : List Int32} (h0 : 0 ≤ e) (h1 : e ≤ n) : 0 ≤ wS T n e b ∧ wS T n e b ≤ 8 * n + 1 := by
  have p := tP_b (T := T) h1
  rcases wS_b (T := T) (b := b) h0 h1 with h | h <;> omega
theorem nS_u {T : Int → Int} {n e lo hi : Int} (h0 : 0 ≤ e) (h1 : e ≤ n) : 0 ≤ nS T n e lo hi ∧ nS T n e lo hi ≤ 8 * n + 2 := by
  have p := tP_b (T := T) h1
  unfold nS
  repeat' split
  all_goals omega
theorem wdS_u {T : Int → Int} {n e : Int} (h0 : 0 ≤ e) (h1 : e ≤ n) : 0 ≤ wdS T n e ∧ wdS T n e ≤ 8 * n + 1 := by
  have p := tP_b (T := T) h1
  unfold wdS
  split <;> omega
theorem plF_u {T : Int → Int} {n e : Int} (h0 : 0 ≤ e) (h1 : e ≤ n) : 0 ≤ plF T n e ∧ plF T n e ≤ 8 * n + 2 := by
  have b := fun k => tQn_b (T := T) h0 h1 k
  have w0 := wS_u (T := T) (b := wBook) h0 h1
  have w2 := wS_u (T := T) (b := wAt) (b 2).1 (b 2).2
  have w4 := wS_u (T := T) (b := wFor) (b 4).1 (b 4).2
  have n1 := nS_u (T := T) (lo := 0) (hi := 7) (b 1).1 (b 1).2
  have n3 := nS_u (T := T) (lo := 0) (hi := 1439) (b 3).1 (b 3).2
  have n5 := nS_u (T := T) (lo := 1) (hi := 4320) (b 5).1 (b 5).2
  unfold plF
  repeat' split
  all_goals omega
theorem wk_u {T : Int → Int} {n : Int} (k : Nat) : ∀ e s : Int, 0 ≤ e → e ≤ n → 0 ≤ (wkF T n k e s).1 ∧ (wkF T n k e s).1 ≤ 8 * n + 2 := by
  induction k with
  | zero => intro e s h0 h1; exact ⟨Int.le_refl 0, by show (0 : Int) ≤ _; omega⟩
  | succ k ih =>
    intro e s h0 h1
    have a := tP_b (T := T) h1
    have b := tQ_b (T := T) h1
    rcases Classical.em (wdv T n e = -1) with q | q
    · rw [wk_stop (Nat.succ_pos k) q]
      show 0 ≤ (if s = 0 then 8 * tP T n e + 1 else 0) ∧ (if s = 0 then 8 * tP T n e + 1 else 0) ≤ 8 * n + 2
      split <;> omega
    · cases y : wb s (wdv T n e)
      · rw [wk_go rfl q y]; exact ih _ _ (by omega) (by omega)
      · rw [wk_dup (Nat.succ_pos k) q y]
        show 0 ≤ 8 * tP T n e + 2 ∧ 8 * tP T n e + 2 ≤ 8 * n + 2
        omega
theorem moF_u {T : Int → Int} {n e : Int} (h0 : 0 ≤ e) (h1 : e ≤ n) : 0 ≤ moF T n e ∧ moF T n e ≤ 8 * n + 2 := by
  have b := fun k => tQn_b (T := T) h0 h1 k
  have a1 := nS_u (T := T) (lo := 1) (hi := 31) (b 1).1 (b 1).2
  have a2 := nS_u (T := T) (lo := 1) (hi := 28) (b 1).1 (b 1).2
  have a3 := nS_u (T := T) (lo := 1) (hi := 5) (b 1).1 (b 1).2
  have a4 := wdS_u (T := T) (b 2).1 (b 2).2
  have a5 := wdS_u (T := T) (b 1).1 (b 1).2
  have a6 := wS_u (T := T) (b := wLast) h0 h1
  unfold moF
  repeat' split
  all_goals omega
theorem ruF_u {T : Int → Int} {n e : Int} (h0 : 0 ≤ e) (h1 : e ≤ n) : 0 ≤ ruF T n e ∧ ruF T n e ≤ 8 * n + 2 := by
  have b := fun k => tQn_b (T := T) h0 h1 k
  have a1 := wS_u (T := T) (b := wEvery) h0 h1
  have a2 := nS_u (T := T) (lo := 1) (hi := 999) (b 1).1 (b 1).2
  have a3 := wk_u (T := T) (n := n) 8 (tQn T n 3 e) 0 (b 3).1 (b 3).2
  have a4 := wS_u (T := T) (b := wMonths) (b 2).1 (b 2).2
  have a5 := moF_u (T := T) (b 3).1 (b 3).2
  unfold ruF
  repeat' split
  all_goals omega
theorem daF_u {T : Int → Int} {n e : Int} (h0 : 0 ≤ e) (h1 : e ≤ n) : 0 ≤ daF T n e ∧ daF T n e ≤ 8 * n + 2 := by
  have b := fun k => tQn_b (T := T) h0 h1 k
  have a1 := nS_u (T := T) (lo := 2000) (hi := 2099) h0 h1
  have a2 := nS_u (T := T) (lo := 1) (hi := 12) (b 1).1 (b 1).2
  have a3 := nS_u (T := T) (lo := 1) (hi := dI (vN T n e) (vN T n (tQn T n 1 e))) (b 2).1 (b 2).2
  unfold daF
  repeat' split
  all_goals omega
theorem spF_u {T : Int → Int} {n e : Int} (h0 : 0 ≤ e) (h1 : e ≤ n) : 0 ≤ spF T n e ∧ spF T n e ≤ 8 * n + 3 := by
  have b := fun k => tQn_b (T := T) h0 h1 k
  have a1 := wS_u (T := T) (b := wFrom) h0 h1
  have a2 := daF_u (T := T) (b 1).1 (b 1).2
  have a3 := nS_u (T := T) (lo := 1) (hi := 999) (b 5).1 (b 5).2
  have a4 := daF_u (T := T) (b 5).1 (b 5).2
  have p := tP_b (T := T) (b 5).2
  have q := (b 5).1
  unfold spF
  repeat' split
  all_goals omega
theorem bkF_u {T : Int → Int} {n : Int} (h0 : 0 ≤ n) : 0 ≤ bkF T n ∧ bkF T n ≤ 8 * n + 3 := by
  have a1 := plF_u (T := T) (n := n) (e := 0) (by omega) h0
  have b6 : 0 ≤ bE6 T n ∧ bE6 T n ≤ n := tQn_b (T := T) (by omega) h0 6
  have a2 := ruF_u (T := T) b6.1 b6.2
  have b7 : 0 ≤ bE7 T n ∧ bE7 T n ≤ n := ruE_b b6.1 b6.2
  have a3 := spF_u (T := T) b7.1 b7.2
  have b8 : 0 ≤ bE8 T n ∧ bE8 T n ≤ n := spE_b b7.1 b7.2
  have p := tP_b (T := T) b8.2
  unfold bkF
  repeat' split
  all_goals omega
set_option maxHeartbeats 4000000 in
set_option maxRecDepth 100000 in
theorem c_X5_init_p {Z : Zt} (zo : Zok Z) (l : Launch) (D : va_G) (cy : Cy) (L0 : List Nat) (f0 : Nat → va_E) (a0 : Nat) (a1 : Nat) (x2 : Int) (lx2 : -2147483648 ≤ x2) (ux2 : x2 ≤ 2147483647) (m_a0 : a0 ∈ L0) (o_a0 : Ob f0 a0 4) (m_a1 : a1 ∈ L0) (o_a1 : ArI f0 a1 cy.1 168) (M : List Nat) (hM : ∀ x ∈ M, x ∈ L0) (hg : GI cy M f0) (hma1 : a1 ∈ M) (h0 : 0 ≤ x2) (h1 : x2 ≤ 168) : Cv Z l yX5_init (Cond.code yX5_init cX5_init 3 none :: TB) ({ frames := 1, cells := 0, slots := 0, locals := 21 } : Room) 0 0 D (tq cy) [.ref a0, .ref a1, .int (iI x2)] L0 f0 (fun (L1 : List Nat) (f1 : Nat → va_E) => L0 = L1 ∧ GI cy M f1 ∧ Ex cy f0 f1 ∧ (∀ x ∈ L0, x ≠ a0 → f1 x = f0 x) ∧ (((0 ≤ fI f1 a0 1 ∧ fI f1 a0 1 ≤ 168) ∧ (0 ≤ fI f1 a0 3 ∧ fI f1 a0 3 ≤ 168) ∧ (0 ≤ fI f1 a0 4 ∧ fI f1 a0 4 ≤ 168) ∧ (-1 ≤ fI f1 a0 7 ∧ fI f1 a0 7 ≤ 999)) ∧ fR f1 a0 0 = some a1 ∧ fI f1 a0 1 = x2 ∧ fI f1 a0 4 = 0 ∧ K69 f1 a0 0 0 0 0 0)) := by
  refine Cv.enter (cc := cX5_init) (n := 3) rfl (plainFor_of_name (by decide)) (Nat.le_of_ble_eq_true rfl) ?_
  intro p e s m below meth c ls A hx hb hr hts hown hlocks hnm hml hK hA hAe hw hZ hl
  have hown : s.vm.findClass RX5 = some m.cls := hown
  have hl : lv_has ls 3 [(0, .ref a0), (1, .ref a1), (2, .int (iI x2))] := hl
  have hN : ZN s := (zo.2.2.2.2 _ _ _ hZ).2
  have hO : ∀ x ∈ L0, x ≠ a0 → f0 x = f0 x := fun _ _ _ => rfl
  have hE : Ex cy f0 f0 := Ex.refl cy f0
  refine lv_aload_n hx hb dX5_init_0 rfl (lv_at hl 0 rfl) ?_
  refine W.objInit hx hb hown (hts _ (List.mem_cons_of_mem _ (mr6 _ (List.mem_of_getElem? (i := 2) rfl)))) (hts _ (List.mem_cons_of_mem _ (mr1 _ (List.mem_of_getElem? (i := 12) rfl)))) (hts _ (List.mem_cons_of_mem _ (mr1 _ (List.mem_of_getElem? (i := 13) rfl)))) rfl (by rw [hml]; exact hl.1) rfl dX5_init_1 (Nat.le_of_ble_eq_true rfl) (Nat.le_of_ble_eq_true rfl) ?_
  refine W.eq (g2 := F0 m 4 ls []) rfl ?_
  refine lv_aload_n hx hb dX5_init_4 rfl (lv_at hl 0 rfl) ?_
  refine q_iconst hx hb dX5_init_5 ?_
  refine q_puti (ci := 4) (C := RX5) (T := TX5) (N := 10) hx hb hts (fun w h => List.mem_cons_of_mem _ (mfX50 w h)) hown hK hw m_a0 o_a0 rfl 2 (by decide) (hts _ (List.mem_cons_of_mem _ (mr6 _ (List.mem_of_getElem? (i := 3) rfl)))) (fun _ h => h) tyX5 tyX5_ok nmX5 rfl (ty := .int) (by decide +kernel) rfl rfl dX5_init_6 (fun H locs hw => ?_)
  have oo := o_a0
  obtain ⟨f_1, ef_1⟩ : ∃ g : Nat → va_E, g = pU f0 a0 2 (.int (iI 0)) := ⟨_, rfl⟩
  have hX : Ex cy f0 f_1 := by rw [ef_1]; exact Ex_pU oo rfl rfl (by decide)
  have hg : GI cy M f_1 := by rw [ef_1]; exact hg.putI oo rfl ⟨by decide, by decide⟩ trivial
  rw [← ef_1] at hw
  have hO : ∀ x ∈ L0, x ≠ a0 → f_1 x = f0 x := fun x9 m9 h9 => Eq.trans (by rw [ef_1]; exact pU_ne h9) (hO x9 m9 h9)
  have hE := hE.trans hX
  have o_a0 := hX.1.1 _ _ o_a0
  have o_a1 := hX.1.2.1 _ _ _ o_a1
  have t_a0_1_f_1 : fI f_1 a0 1 = fI f0 a0 1 := by rw [ef_1]; exact fI_pU (Or.inr (by decide))
  have t_a0_3_f_1 : fI f_1 a0 3 = fI f0 a0 3 := by rw [ef_1]; exact fI_pU (Or.inr (by decide))
  have t_a0_4_f_1 : fI f_1 a0 4 = fI f0 a0 4 := by rw [ef_1]; exact fI_pU (Or.inr (by decide))
  have t_a0_5_f_1 : fI f_1 a0 5 = fI f0 a0 5 := by rw [ef_1]; exact fI_pU (Or.inr (by decide))
  have t_a0_6_f_1 : fI f_1 a0 6 = fI f0 a0 6 := by rw [ef_1]; exact fI_pU (Or.inr (by decide))
  have t_a0_7_f_1 : fI f_1 a0 7 = fI f0 a0 7 := by rw [ef_1]; exact fI_pU (Or.inr (by decide))
  have t_a0_8_f_1 : fI f_1 a0 8 = fI f0 a0 8 := by rw [ef_1]; exact fI_pU (Or.inr (by decide))
  have t_a0_9_f_1 : fI f_1 a0 9 = fI f0 a0 9 := by rw [ef_1]; exact fI_pU (Or.inr (by decide))
  have vf_1 : fI f_1 a0 2 = 0 := by rw [ef_1]; exact fI_pU_self oo rfl ⟨by decide, by decide⟩
  refine lv_aload_n hx hb dX5_init_9 rfl (lv_at hl 0 rfl) ?_
  refine q_iconst hx hb dX5_init_10 ?_
  refine q_puti (ci := 4) (C := RX5) (T := TX5) (N := 10) hx hb hts (fun w h => List.mem_cons_of_mem _ (mfX50 w h)) hown hK hw m_a0 o_a0 rfl 3 (by decide) (hts _ (List.mem_cons_of_mem _ (mr6 _ (List.mem_of_getElem? (i := 4) rfl)))) (fun _ h => h) tyX5 tyX5_ok nmX5 rfl (ty := .int) (by decide +kernel) rfl rfl dX5_init_11 (fun H locs hw => ?_)
  have oo := o_a0
  obtain ⟨f_2, ef_2⟩ : ∃ g : Nat → va_E, g = pU f_1 a0 3 (.int (iI 0)) := ⟨_, rfl⟩
  have hX : Ex cy f_1 f_2 := by rw [ef_2]; exact Ex_pU oo rfl rfl (by decide)
  have hg : GI cy M f_2 := by rw [ef_2]; exact hg.putI oo rfl ⟨by decide, by decide⟩ (by show 0 ≤ 0 ∧ 0 ≤ 168; omega)
  rw [← ef_2] at hw
  have hO : ∀ x ∈ L0, x ≠ a0 → f_2 x = f0 x := fun x9 m9 h9 => Eq.trans (by rw [ef_2]; exact pU_ne h9) (hO x9 m9 h9)
  have hE := hE.trans hX
  have o_a0 := hX.1.1 _ _ o_a0
  have o_a1 := hX.1.2.1 _ _ _ o_a1
  have t_a0_1_f_2 : fI f_2 a0 1 = fI f_1 a0 1 := by rw [ef_2]; exact fI_pU (Or.inr (by decide))
  have t_a0_2_f_2 : fI f_2 a0 2 = fI f_1 a0 2 := by rw [ef_2]; exact fI_pU (Or.inr (by decide))
  have t_a0_4_f_2 : fI f_2 a0 4 = fI f_1 a0 4 := by rw [ef_2]; exact fI_pU (Or.inr (by decide))
  have t_a0_5_f_2 : fI f_2 a0 5 = fI f_1 a0 5 := by rw [ef_2]; exact fI_pU (Or.inr (by decide))
  have t_a0_6_f_2 : fI f_2 a0 6 = fI f_1 a0 6 := by rw [ef_2]; exact fI_pU (Or.inr (by decide))
  have t_a0_7_f_2 : fI f_2 a0 7 = fI f_1 a0 7 := by rw [ef_2]; exact fI_pU (Or.inr (by decide))
  have t_a0_8_f_2 : fI f_2 a0 8 = fI f_1 a0 8 := by rw [ef_2]; exact fI_pU (Or.inr (by decide))
  have t_a0_9_f_2 : fI f_2 a0 9 = fI f_1 a0 9 := by rw [ef_2]; exact fI_pU (Or.inr (by decide))
  have vf_2 : fI f_2 a0 3 = 0 := by rw [ef_2]; exact fI_pU_self oo rfl ⟨by decide, by decide⟩
  refine lv_aload_n hx hb dX5_init_14 rfl (lv_at hl 0 rfl) ?_
  refine q_iconst hx hb dX5_init_15 ?_
  refine q_puti (ci := 4) (C := RX5) (T := TX5) (N := 10) hx hb hts (fun w h => List.mem_cons_of_mem _ (mfX50 w h)) hown hK hw m_a0 o_a0 rfl 4 (by decide) (hts _ (List.mem_cons_of_mem _ (mr6 _ (List.mem_of_getElem? (i := 5) rfl)))) (fun _ h => h) tyX5 tyX5_ok nmX5 rfl (ty := .int) (by decide +kernel) rfl rfl dX5_init_16 (fun H locs hw => ?_)
  have oo := o_a0
  obtain ⟨f_3, ef_3⟩ : ∃ g : Nat → va_E, g = pU f_2 a0 4 (.int (iI 0)) := ⟨_, rfl⟩
  have hX : Ex cy f_2 f_3 := by rw [ef_3]; exact Ex_pU oo rfl rfl (by decide)
  have hg : GI cy M f_3 := by rw [ef_3]; exact hg.putI oo rfl ⟨by decide, by decide⟩ (by show 0 ≤ 0 ∧ 0 ≤ 168; omega)
  rw [← ef_3] at hw
  have hO : ∀ x ∈ L0, x ≠ a0 → f_3 x = f0 x := fun x9 m9 h9 => Eq.trans (by rw [ef_3]; exact pU_ne h9) (hO x9 m9 h9)
  have hE := hE.trans hX
  have o_a0 := hX.1.1 _ _ o_a0
  have o_a1 := hX.1.2.1 _ _ _ o_a1
  have t_a0_1_f_3 : fI f_3 a0 1 = fI f_2 a0 1 := by rw [ef_3]; exact fI_pU (Or.inr (by decide))
  have t_a0_2_f_3 : fI f_3 a0 2 = fI f_2 a0 2 := by rw [ef_3]; exact fI_pU (Or.inr (by decide))
  have t_a0_3_f_3 : fI f_3 a0 3 = fI f_2 a0 3 := by rw [ef_3]; exact fI_pU (Or.inr (by decide))
  have t_a0_5_f_3 : fI f_3 a0 5 = fI f_2 a0 5 := by rw [ef_3]; exact fI_pU (Or.inr (by decide))
  have t_a0_6_f_3 : fI f_3 a0 6 = fI f_2 a0 6 := by rw [ef_3]; exact fI_pU (Or.inr (by decide))
  have t_a0_7_f_3 : fI f_3 a0 7 = fI f_2 a0 7 := by rw [ef_3]; exact fI_pU (Or.inr (by decide))
  have t_a0_8_f_3 : fI f_3 a0 8 = fI f_2 a0 8 := by rw [ef_3]; exact fI_pU (Or.inr (by decide))
  have t_a0_9_f_3 : fI f_3 a0 9 = fI f_2 a0 9 := by rw [ef_3]; exact fI_pU (Or.inr (by decide))
  have vf_3 : fI f_3 a0 4 = 0 := by rw [ef_3]; exact fI_pU_self oo rfl ⟨by decide, by decide⟩
  refine lv_aload_n hx hb dX5_init_19 rfl (lv_at hl 0 rfl) ?_
  refine q_iconst hx hb dX5_init_20 ?_
  refine q_puti (ci := 4) (C := RX5) (T := TX5) (N := 10) hx hb hts (fun w h => List.mem_cons_of_mem _ (mfX50 w h)) hown hK hw m_a0 o_a0 rfl 5 (by decide) (hts _ (List.mem_cons_of_mem _ (mr6 _ (List.mem_of_getElem? (i := 6) rfl)))) (fun _ h => h) tyX5 tyX5_ok nmX5 rfl (ty := .int) (by decide +kernel) rfl rfl dX5_init_21 (fun H locs hw => ?_)
  have oo := o_a0
  obtain ⟨f_4, ef_4⟩ : ∃ g : Nat → va_E, g = pU f_3 a0 5 (.int (iI 0)) := ⟨_, rfl⟩
  have hX : Ex cy f_3 f_4 := by rw [ef_4]; exact Ex_pU oo rfl rfl (by decide)
  have hg : GI cy M f_4 := by rw [ef_4]; exact hg.putI oo rfl ⟨by decide, by decide⟩ trivial
  rw [← ef_4] at hw
  have hO : ∀ x ∈ L0, x ≠ a0 → f_4 x = f0 x := fun x9 m9 h9 => Eq.trans (by rw [ef_4]; exact pU_ne h9) (hO x9 m9 h9)
  have hE := hE.trans hX
  have o_a0 := hX.1.1 _ _ o_a0
  have o_a1 := hX.1.2.1 _ _ _ o_a1
  have t_a0_1_f_4 : fI f_4 a0 1 = fI f_3 a0 1 := by rw [ef_4]; exact fI_pU (Or.inr (by decide))
  have t_a0_2_f_4 : fI f_4 a0 2 = fI f_3 a0 2 := by rw [ef_4]; exact fI_pU (Or.inr (by decide))
  have t_a0_3_f_4 : fI f_4 a0 3 = fI f_3 a0 3 := by rw [ef_4]; exact fI_pU (Or.inr (by decide))
  have t_a0_4_f_4 : fI f_4 a0 4 = fI f_3 a0 4 := by rw [ef_4]; exact fI_pU (Or.inr (by decide))
  have t_a0_6_f_4 : fI f_4 a0 6 = fI f_3 a0 6 := by rw [ef_4]; exact fI_pU (Or.inr (by decide))
  have t_a0_7_f_4 : fI f_4 a0 7 = fI f_3 a0 7 := by rw [ef_4]; exact fI_pU (Or.inr (by decide))
  have t_a0_8_f_4 : fI f_4 a0 8 = fI f_3 a0 8 := by rw [ef_4]; exact fI_pU (Or.inr (by decide))
  have t_a0_9_f_4 : fI f_4 a0 9 = fI f_3 a0 9 := by rw [ef_4]; exact fI_pU (Or.inr (by decide))
  have vf_4 : fI f_4 a0 5 = 0 := by rw [ef_4]; exact fI_pU_self oo rfl ⟨by decide, by decide⟩
  refine lv_aload_n hx hb dX5_init_24 rfl (lv_at hl 0 rfl) ?_
  refine q_iconst hx hb dX5_init_25 ?_
  refine q_puti (ci := 4) (C := RX5) (T := TX5) (N := 10) hx hb hts (fun w h => List.mem_cons_of_mem _ (mfX50 w h)) hown hK hw m_a0 o_a0 rfl 6 (by decide) (hts _ (List.mem_cons_of_mem _ (mr6 _ (List.mem_of_getElem? (i := 7) rfl)))) (fun _ h => h) tyX5 tyX5_ok nmX5 rfl (ty := .int) (by decide +kernel) rfl rfl dX5_init_26 (fun H locs hw => ?_)
  have oo := o_a0
  obtain ⟨f_5, ef_5⟩ : ∃ g : Nat → va_E, g = pU f_4 a0 6 (.int (iI 0)) := ⟨_, rfl⟩
  have hX : Ex cy f_4 f_5 := by rw [ef_5]; exact Ex_pU oo rfl rfl (by decide)
  have hg : GI cy M f_5 := by rw [ef_5]; exact hg.putI oo rfl ⟨by decide, by decide⟩ trivial
  rw [← ef_5] at hw
  have hO : ∀ x ∈ L0, x ≠ a0 → f_5 x = f0 x := fun x9 m9 h9 => Eq.trans (by rw [ef_5]; exact pU_ne h9) (hO x9 m9 h9)
  have hE := hE.trans hX
  have o_a0 := hX.1.1 _ _ o_a0
  have o_a1 := hX.1.2.1 _ _ _ o_a1
  have t_a0_1_f_5 : fI f_5 a0 1 = fI f_4 a0 1 := by rw [ef_5]; exact fI_pU (Or.inr (by decide))
  have t_a0_2_f_5 : fI f_5 a0 2 = fI f_4 a0 2 := by rw [ef_5]; exact fI_pU (Or.inr (by decide))
  have t_a0_3_f_5 : fI f_5 a0 3 = fI f_4 a0 3 := by rw [ef_5]; exact fI_pU (Or.inr (by decide))
  have t_a0_4_f_5 : fI f_5 a0 4 = fI f_4 a0 4 := by rw [ef_5]; exact fI_pU (Or.inr (by decide))
  have t_a0_5_f_5 : fI f_5 a0 5 = fI f_4 a0 5 := by rw [ef_5]; exact fI_pU (Or.inr (by decide))
  have t_a0_7_f_5 : fI f_5 a0 7 = fI f_4 a0 7 := by rw [ef_5]; exact fI_pU (Or.inr (by decide))
  have t_a0_8_f_5 : fI f_5 a0 8 = fI f_4 a0 8 := by rw [ef_5]; exact fI_pU (Or.inr (by decide))
  have t_a0_9_f_5 : fI f_5 a0 9 = fI f_4 a0 9 := by rw [ef_5]; exact fI_pU (Or.inr (by decide))
  have vf_5 : fI f_5 a0 6 = 0 := by rw [ef_5]; exact fI_pU_self oo rfl ⟨by decide, by decide⟩
  refine lv_aload_n hx hb dX5_init_29 rfl (lv_at hl 0 rfl) ?_
  refine q_iconst hx hb dX5_init_30 ?_
  refine q_puti (ci := 4) (C := RX5) (T := TX5) (N := 10) hx hb hts (fun w h => List.mem_cons_of_mem _ (mfX50 w h)) hown hK hw m_a0 o_a0 rfl 7 (by decide) (hts _ (List.mem_cons_of_mem _ (mr6 _ (List.mem_of_getElem? (i := 8) rfl)))) (fun _ h => h) tyX5 tyX5_ok nmX5 rfl (ty := .int) (by decide +kernel) rfl rfl dX5_init_31 (fun H locs hw => ?_)
  have oo := o_a0
  obtain ⟨f_6, ef_6⟩ : ∃ g : Nat → va_E, g = pU f_5 a0 7 (.int (iI 0)) := ⟨_, rfl⟩
  have hX : Ex cy f_5 f_6 := by rw [ef_6]; exact Ex_pU oo rfl rfl (by decide)
  have hg : GI cy M f_6 := by rw [ef_6]; exact hg.putI oo rfl ⟨by decide, by decide⟩ (by show -1 ≤ 0 ∧ 0 ≤ 999; omega)
  rw [← ef_6] at hw
  have hO : ∀ x ∈ L0, x ≠ a0 → f_6 x = f0 x := fun x9 m9 h9 => Eq.trans (by rw [ef_6]; exact pU_ne h9) (hO x9 m9 h9)
  have hE := hE.trans hX
  have o_a0 := hX.1.1 _ _ o_a0
  have o_a1 := hX.1.2.1 _ _ _ o_a1
  have t_a0_1_f_6 : fI f_6 a0 1 = fI f_5 a0 1 := by rw [ef_6]; exact fI_pU (Or.inr (by decide))
  have t_a0_2_f_6 : fI f_6 a0 2 = fI f_5 a0 2 := by rw [ef_6]; exact fI_pU (Or.inr (by decide))
  have t_a0_3_f_6 : fI f_6 a0 3 = fI f_5 a0 3 := by rw [ef_6]; exact fI_pU (Or.inr (by decide))
  have t_a0_4_f_6 : fI f_6 a0 4 = fI f_5 a0 4 := by rw [ef_6]; exact fI_pU (Or.inr (by decide))
  have t_a0_5_f_6 : fI f_6 a0 5 = fI f_5 a0 5 := by rw [ef_6]; exact fI_pU (Or.inr (by decide))
  have t_a0_6_f_6 : fI f_6 a0 6 = fI f_5 a0 6 := by rw [ef_6]; exact fI_pU (Or.inr (by decide))
  have t_a0_8_f_6 : fI f_6 a0 8 = fI f_5 a0 8 := by rw [ef_6]; exact fI_pU (Or.inr (by decide))
  have t_a0_9_f_6 : fI f_6 a0 9 = fI f_5 a0 9 := by rw [ef_6]; exact fI_pU (Or.inr (by decide))
  have vf_6 : fI f_6 a0 7 = 0 := by rw [ef_6]; exact fI_pU_self oo rfl ⟨by decide, by decide⟩
  refine lv_aload_n hx hb dX5_init_34 rfl (lv_at hl 0 rfl) ?_
  refine q_iconst hx hb dX5_init_35 ?_
  refine q_puti (ci := 4) (C := RX5) (T := TX5) (N := 10) hx hb hts (fun w h => List.mem_cons_of_mem _ (mfX50 w h)) hown hK hw m_a0 o_a0 rfl 8 (by decide) (hts _ (List.mem_cons_of_mem _ (mr6 _ (List.mem_of_getElem? (i := 9) rfl)))) (fun _ h => h) tyX5 tyX5_ok nmX5 rfl (ty := .int) (by decide +kernel) rfl rfl dX5_init_36 (fun H locs hw => ?_)
  have oo := o_a0
  obtain ⟨f_7, ef_7⟩ : ∃ g : Nat → va_E, g = pU f_6 a0 8 (.int (iI 0)) := ⟨_, rfl⟩
  have hX : Ex cy f_6 f_7 := by rw [ef_7]; exact Ex_pU oo rfl rfl (by decide)
  have hg : GI cy M f_7 := by rw [ef_7]; exact hg.putI oo rfl ⟨by decide, by decide⟩ trivial
  rw [← ef_7] at hw
  have hO : ∀ x ∈ L0, x ≠ a0 → f_7 x = f0 x := fun x9 m9 h9 => Eq.trans (by rw [ef_7]; exact pU_ne h9) (hO x9 m9 h9)
  have hE := hE.trans hX
  have o_a0 := hX.1.1 _ _ o_a0
  have o_a1 := hX.1.2.1 _ _ _ o_a1
  have t_a0_1_f_7 : fI f_7 a0 1 = fI f_6 a0 1 := by rw [ef_7]; exact fI_pU (Or.inr (by decide))
  have t_a0_2_f_7 : fI f_7 a0 2 = fI f_6 a0 2 := by rw [ef_7]; exact fI_pU (Or.inr (by decide))
  have t_a0_3_f_7 : fI f_7 a0 3 = fI f_6 a0 3 := by rw [ef_7]; exact fI_pU (Or.inr (by decide))
  have t_a0_4_f_7 : fI f_7 a0 4 = fI f_6 a0 4 := by rw [ef_7]; exact fI_pU (Or.inr (by decide))
  have t_a0_5_f_7 : fI f_7 a0 5 = fI f_6 a0 5 := by rw [ef_7]; exact fI_pU (Or.inr (by decide))
  have t_a0_6_f_7 : fI f_7 a0 6 = fI f_6 a0 6 := by rw [ef_7]; exact fI_pU (Or.inr (by decide))
  have t_a0_7_f_7 : fI f_7 a0 7 = fI f_6 a0 7 := by rw [ef_7]; exact fI_pU (Or.inr (by decide))
  have t_a0_9_f_7 : fI f_7 a0 9 = fI f_6 a0 9 := by rw [ef_7]; exact fI_pU (Or.inr (by decide))
  have vf_7 : fI f_7 a0 8 = 0 := by rw [ef_7]; exact fI_pU_self oo rfl ⟨by decide, by decide⟩
  refine lv_aload_n hx hb dX5_init_39 rfl (lv_at hl 0 rfl) ?_
  refine q_iconst hx hb dX5_init_40 ?_
  refine q_puti (ci := 4) (C := RX5) (T := TX5) (N := 10) hx hb hts (fun w h => List.mem_cons_of_mem _ (mfX50 w h)) hown hK hw m_a0 o_a0 rfl 9 (by decide) (hts _ (List.mem_cons_of_mem _ (mr6 _ (List.mem_of_getElem? (i := 10) rfl)))) (fun _ h => h) tyX5 tyX5_ok nmX5 rfl (ty := .int) (by decide +kernel) rfl rfl dX5_init_41 (fun H locs hw => ?_)
  have oo := o_a0
  obtain ⟨f_8, ef_8⟩ : ∃ g : Nat → va_E, g = pU f_7 a0 9 (.int (iI 0)) := ⟨_, rfl⟩
  have hX : Ex cy f_7 f_8 := by rw [ef_8]; exact Ex_pU oo rfl rfl (by decide)
  have hg : GI cy M f_8 := by rw [ef_8]; exact hg.putI oo rfl ⟨by decide, by decide⟩ trivial
  rw [← ef_8] at hw
  have hO : ∀ x ∈ L0, x ≠ a0 → f_8 x = f0 x := fun x9 m9 h9 => Eq.trans (by rw [ef_8]; exact pU_ne h9) (hO x9 m9 h9)
  have hE := hE.trans hX
  have o_a0 := hX.1.1 _ _ o_a0
  have o_a1 := hX.1.2.1 _ _ _ o_a1
  have t_a0_1_f_8 : fI f_8 a0 1 = fI f_7 a0 1 := by rw [ef_8]; exact fI_pU (Or.inr (by decide))
  have t_a0_2_f_8 : fI f_8 a0 2 = fI f_7 a0 2 := by rw [ef_8]; exact fI_pU (Or.inr (by decide))
  have t_a0_3_f_8 : fI f_8 a0 3 = fI f_7 a0 3 := by rw [ef_8]; exact fI_pU (Or.inr (by decide))
  have t_a0_4_f_8 : fI f_8 a0 4 = fI f_7 a0 4 := by rw [ef_8]; exact fI_pU (Or.inr (by decide))
  have t_a0_5_f_8 : fI f_8 a0 5 = fI f_7 a0 5 := by rw [ef_8]; exact fI_pU (Or.inr (by decide))
  have t_a0_6_f_8 : fI f_8 a0 6 = fI f_7 a0 6 := by rw [ef_8]; exact fI_pU (Or.inr (by decide))
  have t_a0_7_f_8 : fI f_8 a0 7 = fI f_7 a0 7 := by rw [ef_8]; exact fI_pU (Or.inr (by decide))
  have t_a0_8_f_8 : fI f_8 a0 8 = fI f_7 a0 8 := by rw [ef_8]; exact fI_pU (Or.inr (by decide))
  have vf_8 : fI f_8 a0 9 = 0 := by rw [ef_8]; exact fI_pU_self oo rfl ⟨by decide, by decide⟩
  refine lv_aload_n hx hb dX5_init_44 rfl (lv_at hl 0 rfl) ?_
  refine lv_aload_n hx hb dX5_init_45 rfl (lv_at hl 1 rfl) ?_
  refine q_putFr (ci := 4) (C := RX5) (T := TX5) (N := 10) hx hb hts (fun w h => List.mem_cons_of_mem _ (mfX50 w h)) hown hK hw m_a0 o_a0 rfl 0 (by decide) (hts _ (List.mem_cons_of_mem _ (mr6 _ (List.mem_of_getElem? (i := 11) rfl)))) (fun _ h => h) tyX5 tyX5_ok nmX5 rfl hnm rfl (ty := tyX5 0) (by decide +kernel) rfl rfl rfl dX5_init_46 (fun H locs hw => ?_)
  have oo := o_a0
  obtain ⟨f_9, ef_9⟩ : ∃ g : Nat → va_E, g = pU f_8 a0 0 (.ref a1) := ⟨_, rfl⟩
  have hX : Ex cy f_8 f_9 := by rw [ef_9]; exact Ex_pU oo rfl rfl (by decide)
  have hg : GI cy M f_9 := by rw [ef_9]; exact hg.putR oo rfl ⟨a1, rfl, hma1, o_a1⟩
  rw [← ef_9] at hw
  have hO : ∀ x ∈ L0, x ≠ a0 → f_9 x = f0 x := fun x9 m9 h9 => Eq.trans (by rw [ef_9]; exact pU_ne h9) (hO x9 m9 h9)
  have hE := hE.trans hX
  have o_a0 := hX.1.1 _ _ o_a0
  have o_a1 := hX.1.2.1 _ _ _ o_a1
  have t_a0_1_f_9 : fI f_9 a0 1 = fI f_8 a0 1 := by rw [ef_9]; exact fI_pU (Or.inr (by decide))
  have t_a0_2_f_9 : fI f_9 a0 2 = fI f_8 a0 2 := by rw [ef_9]; exact fI_pU (Or.inr (by decide))
  have t_a0_3_f_9 : fI f_9 a0 3 = fI f_8 a0 3 := by rw [ef_9]; exact fI_pU (Or.inr (by decide))
  have t_a0_4_f_9 : fI f_9 a0 4 = fI f_8 a0 4 := by rw [ef_9]; exact fI_pU (Or.inr (by decide))
  have t_a0_5_f_9 : fI f_9 a0 5 = fI f_8 a0 5 := by rw [ef_9]; exact fI_pU (Or.inr (by decide))
  have t_a0_6_f_9 : fI f_9 a0 6 = fI f_8 a0 6 := by rw [ef_9]; exact fI_pU (Or.inr (by decide))
  have t_a0_7_f_9 : fI f_9 a0 7 = fI f_8 a0 7 := by rw [ef_9]; exact fI_pU (Or.inr (by decide))
  have t_a0_8_f_9 : fI f_9 a0 8 = fI f_8 a0 8 := by rw [ef_9]; exact fI_pU (Or.inr (by decide))
  have t_a0_9_f_9 : fI f_9 a0 9 = fI f_8 a0 9 := by rw [ef_9]; exact fI_pU (Or.inr (by decide))
  have w_0 : fR f_9 a0 0 = some a1 := by rw [ef_9]; exact fR_pU_self oo rfl
  refine lv_aload_n hx hb dX5_init_49 rfl (lv_at hl 0 rfl) ?_
  refine lv_iload_n hx hb dX5_init_50 rfl (lv_at hl 2 rfl) ?_
  refine lv_aload_n hx hb dX5_init_51 rfl (lv_at hl 1 rfl) ?_
  refine q_alenI hx hb hK hw m_a1 0 o_a1 rfl dX5_init_52 ?_
  refine q_min hx hb (hml.trans hl.1.symm) hown (hts _ (List.mem_cons_of_mem _ (mr6 _ (List.mem_of_getElem? (i := 12) rfl)))) (hts _ (List.mem_cons_of_mem _ (mr6 _ (List.mem_of_getElem? (i := 13) rfl)))) (hts _ (List.mem_cons_of_mem _ (mr6 _ (List.mem_of_getElem? (i := 14) rfl)))) (hts _ (List.mem_cons_of_mem _ (mr6 _ (List.mem_of_getElem? (i := 15) rfl)))) (Nat.le_of_ble_eq_true rfl) (Nat.le_of_ble_eq_true rfl) (Nat.le_of_ble_eq_true rfl) (Nat.le_of_ble_eq_true rfl) ⟨lx2, ux2⟩ ⟨by decide, by decide⟩ dX5_init_53 (fun x_10 lx_10 ux_10 ex_10 => ?_)
  refine q_putFi (ci := 4) (C := RX5) (T := TX5) (N := 10) hx hb hts (fun w h => List.mem_cons_of_mem _ (mfX50 w h)) hown hK hw m_a0 o_a0 rfl 1 (by decide) (hts _ (List.mem_cons_of_mem _ (mr6 _ (List.mem_of_getElem? (i := 16) rfl)))) (fun _ h => h) tyX5 tyX5_ok nmX5 rfl hnm rfl (ty := .int) (by decide +kernel) rfl rfl dX5_init_56 (fun H locs hw => ?_)
  have oo := o_a0
  obtain ⟨f_11, ef_11⟩ : ∃ g : Nat → va_E, g = pU f_9 a0 1 (.int (iI x_10)) := ⟨_, rfl⟩
  have hX : Ex cy f_9 f_11 := by rw [ef_11]; exact Ex_pU oo rfl rfl (by decide)
  have hg : GI cy M f_11 := by rw [ef_11]; exact hg.putI oo rfl ⟨lx_10, ux_10⟩ (by show 0 ≤ x_10 ∧ x_10 ≤ 168; omega)
  rw [← ef_11] at hw
  have hO : ∀ x ∈ L0, x ≠ a0 → f_11 x = f0 x := fun x9 m9 h9 => Eq.trans (by rw [ef_11]; exact pU_ne h9) (hO x9 m9 h9)
  have hE := hE.trans hX
  have o_a0 := hX.1.1 _ _ o_a0
  have o_a1 := hX.1.2.1 _ _ _ o_a1
  have w_0 : fR f_11 a0 0 = some a1 := by rw [ef_11, fR_pU (Or.inr (by decide))]; exact w_0
  have t_a0_2_f_11 : fI f_11 a0 2 = fI f_9 a0 2 := by rw [ef_11]; exact fI_pU (Or.inr (by decide))
  have t_a0_3_f_11 : fI f_11 a0 3 = fI f_9 a0 3 := by rw [ef_11]; exact fI_pU (Or.inr (by decide))
  have t_a0_4_f_11 : fI f_11 a0 4 = fI f_9 a0 4 := by rw [ef_11]; exact fI_pU (Or.inr (by decide))
  have t_a0_5_f_11 : fI f_11 a0 5 = fI f_9 a0 5 := by rw [ef_11]; exact fI_pU (Or.inr (by decide))
  have t_a0_6_f_11 : fI f_11 a0 6 = fI f_9 a0 6 := by rw [ef_11]; exact fI_pU (Or.inr (by decide))
  have t_a0_7_f_11 : fI f_11 a0 7 = fI f_9 a0 7 := by rw [ef_11]; exact fI_pU (Or.inr (by decide))
  have t_a0_8_f_11 : fI f_11 a0 8 = fI f_9 a0 8 := by rw [ef_11]; exact fI_pU (Or.inr (by decide))
  have t_a0_9_f_11 : fI f_11 a0 9 = fI f_9 a0 9 := by rw [ef_11]; exact fI_pU (Or.inr (by decide))
  have vf_11 : fI f_11 a0 1 = x_10 := by rw [ef_11]; exact fI_pU_self oo rfl ⟨lx_10, ux_10⟩
  exact q_ret_v hx hb hr hlocks hK hAe hw (Nat.le_of_ble_eq_true rfl) (Nat.le_of_ble_eq_true rfl) dX5_init_59 (by exact ⟨rfl, hg, hE, hO, ⟨⟨by omega, by omega⟩, ⟨by omega, by omega⟩, ⟨by omega, by omega⟩, ⟨by omega, by omega⟩⟩, w_0, by omega, by omega, by omega, by omega, by omega, by omega, by omega⟩)
set_option maxHeartbeats 4000000 in
set_option maxRecDepth 100000 in
theorem c_X9_book_p {Z : Zt} (zo : Zok Z) (l : Launch) (D : va_G) (cy : Cy) (L0 : List Nat) (f0 : Nat → va_E) (a0 : Nat) (m_a0 : a0 ∈ L0) (o_a0 : Ob f0 a0 7) (hg : GI cy L0 f0) (rq : Int → Nat) (g : Int → Int) (mm : Int) (sx : SX f0 a0 rq g mm) (tp : Nat) (et : fR f0 a0 0 = some tp) (Tt : Int → Int) (hT : ∀ i : Int, 0 ≤ i → i < 168 → aI f0 tp i = Tt i) : Ci Z l yX9_book (Cond.code yX9_book cX9_book 4 (some .int) :: TB) ({ frames := 10, cells := 2, slots := 17, locals := 212 } : Room) 2 17 D (tq cy) [.ref a0] L0 f0 (fun (r : Int) (L1 : List Nat) (f1 : Nat → va_E) => (∀ x ∈ L0, x ∈ L1) ∧ GI cy L1 f1 ∧ Al cy L0 f0 f1 ∧ ((r = -1 ∧ (160 < fI f0 a0 1 ∨ 12 ≤ mm) ∧ (∀ y ∈ L0, y ≠ a0 → f1 y = f0 y) ∧ (∀ k : Nat, k ≠ 1 → fV f1 a0 k = fV f0 a0 k) ∧ fI f1 a0 1 = 0) ∨ (fI f0 a0 1 ≤ 160 ∧ mm < 12 ∧ bkF Tt (fI f0 a0 1) ≠ 0 ∧ r = -2 - bkF Tt (fI f0 a0 1) ∧ (∀ y ∈ L0, y ≠ a0 → y ≠ rq mm → f1 y = f0 y) ∧ (∀ k : Nat, k ≠ 1 → fV f1 a0 k = fV f0 a0 k) ∧ fI f1 a0 1 = 0) ∨ (fI f0 a0 1 ≤ 160 ∧ mm < 12 ∧ bkF Tt (fI f0 a0 1) = 0 ∧ r = mm ∧ ∃ (sh : Nat) (f9 : Nat → va_E), fR f0 a0 2 = some sh ∧ ((∀ y ∈ L0, y ≠ a0 → y ≠ rq mm → f9 y = f0 y) ∧ (∀ k : Nat, k ≠ 1 → fV f9 a0 k = fV f0 a0 k) ∧ fI f9 a0 1 = 0) ∧ RB f9 (rq mm) (bkW Tt (fI f0 a0 1)) 0 ∧ RK f9 f1 sh ∧ fI f1 sh 1 = mm + 1))) := by
  refine Ci.enter (cc := cX9_book) (n := 4) rfl (plainFor_of_name (by decide)) (Nat.le_of_ble_eq_true rfl) ?_
  intro p e s m below meth c ls A hx hb hr hts hown hlocks hnm hml hK hA hAe hw hZ hl
  have hown : s.vm.findClass RX9 = some m.cls := hown
  have hl : lv_has ls 4 [(0, .ref a0)] := hl
  have hN : ZN s := (zo.2.2.2.2 _ _ _ hZ).2
  have hs : ∀ x ∈ L0, x ∈ L0 := fun _ h => h
  have hE : Al cy L0 f0 f0 := Al.refl cy L0 f0
  have hg0 := hg
  have ma0 := m_a0
  have oa7 := o_a0
  have mtp := tape_in hg m_a0 o_a0 et
  have bn : 0 ≤ fI f0 a0 1 ∧ fI f0 a0 1 ≤ 168 := hg.1 _ m_a0 7 1 o_a0
  refine lv_aload_n hx hb dX9_book_0 rfl (lv_at hl 0 rfl) ?_
  refine q_geti (ci := 7) (C := RX9) (T := TX9) (N := 4) hx hb hts (fun w h => List.mem_cons_of_mem _ (mfX90 w h)) hown hK hw m_a0 o_a0 rfl 1 (by decide) (hts _ (List.mem_cons_of_mem _ (mr1 _ (List.mem_of_getElem? (i := 16) rfl)))) (fun _ h => h) rfl dX9_book_1 (fun x_1 lx_1 ux_1 ex_1 => ?_)
  have bx_1 : 0 ≤ x_1 ∧ x_1 ≤ 168 := by rw [ex_1]; exact hg.1 _ m_a0 7 1 o_a0
  refine lv_istore_n (lv' := [(1, .int (iI x_1)), (0, .ref a0)]) hx hb dX9_book_4 rfl hl (by decide) rfl (fun ls hl => ?_)
  refine lv_aload_n hx hb dX9_book_5 rfl (lv_at hl 1 rfl) ?_
  refine q_iconst hx hb dX9_book_6 ?_
  refine q_puti (ci := 7) (C := RX9) (T := TX9) (N := 4) hx hb hts (fun w h => List.mem_cons_of_mem _ (mfX90 w h)) hown hK hw m_a0 o_a0 rfl 1 (by decide) (hts _ (List.mem_cons_of_mem _ (mr1 _ (List.mem_of_getElem? (i := 16) rfl)))) (fun _ h => h) tyX9 tyX9_ok nmX9 rfl (ty := .int) (by decide +kernel) rfl rfl dX9_book_7 (fun H locs hw => ?_)
  have oo := o_a0
  obtain ⟨f_2, ef_2⟩ : ∃ g : Nat → va_E, g = pU f0 a0 1 (.int (iI 0)) := ⟨_, rfl⟩
  have hX : Ey cy f0 f_2 := by rw [ef_2]; exact Ey_pU oo rfl
  have hg : GI cy L0 f_2 := by rw [ef_2]; exact hg.putI oo rfl ⟨by decide, by decide⟩ (by show 0 ≤ 0 ∧ 0 ≤ 168; omega)
  rw [← ef_2] at hw
  have hE := hE.trans hs (hX.al _)
  have o_a0 := hX.1.1 _ _ o_a0
  have vf_2 : fI f_2 a0 1 = 0 := by rw [ef_2]; exact fI_pU_self oo rfl ⟨by decide, by decide⟩
  obtain ⟨f7, ef7⟩ : ∃ z : Nat → va_E, z = f_2 := ⟨_, rfl⟩
  have hold : ∀ x ∈ L0, f_2 x = f7 x := fun x _ => by rw [ef7]
  have h7 : ∀ y ∈ L0, y ≠ a0 → f7 y = f0 y := fun y _ n => by rw [ef7, ef_2]; exact pU_ne n
  have k7 : ∀ k : Nat, k ≠ 1 → fV f7 a0 k = fV f0 a0 k := fun k h => by rw [ef7, ef_2]; exact fV_pU (Or.inr h)
  have z7 : fI f7 a0 1 = 0 := by rw [ef7]; exact vf_2
  have sx7 : SX f7 a0 rq g mm := sx.offA hg0 ma0 oa7 h7 (k7 2 (by decide))
  have bu := bkF_u (T := Tt) (n := fI f0 a0 1) (by omega)
  refine lv_iload_n hx hb dX9_book_10 rfl (lv_at hl 0 rfl) ?_
  refine q_sipush hx hb dX9_book_11 rfl ?_
  refine q_icmp_gt (tgt := 27) hx hb dX9_book_14 (by decide) ⟨lx_1, ux_1⟩ ⟨by decide, by decide⟩ (fun c14 => ?_) (fun c14 => ?_)
  · refine q_iconst hx hb dX9_book_27 ?_
    exact q_ret_i hx hb hr hlocks hK hAe hw ⟨by decide, by decide⟩ (Nat.le_of_ble_eq_true rfl) (Nat.le_of_ble_eq_true rfl) dX9_book_28 (by exact ⟨hs, hg, hE, Or.inl ⟨by omega, by omega, by rw [← ef7]; exact h7, by rw [← ef7]; exact k7, by rw [← ef7]; exact z7⟩⟩)
  · refine lv_aload_n hx hb dX9_book_17 rfl (lv_at hl 1 rfl) ?_
    obtain ⟨r_3, er_3, m_r_3, o_r_3⟩ := (show ∃ r, fR f_2 a0 2 = some r ∧ r ∈ L0 ∧ Ob f_2 r 5 from hg.2.1 _ m_a0 7 2 o_a0)
    refine q_getr (ci := 7) (C := RX9) (T := TX9) (N := 4) hx hb hts (fun w h => List.mem_cons_of_mem _ (mfX90 w h)) hown hK hw m_a0 o_a0 rfl 2 (by decide) (hts _ (List.mem_cons_of_mem _ (mr1 _ (List.mem_of_getElem? (i := 20) rfl)))) (fun _ h => h) rfl er_3 dX9_book_18 ?_
    have s18 := (show SX f_2 a0 rq g mm by rw [← ef7]; exact sx7).at er_3
    refine q_call_i hA hK hw (va_runV (As := []) (rest := []) ⟨hx, hb, hml, hown, hts⟩ (c_X7_isFull_f zo l D cy L0 f_2 r_3 m_r_3 o_r_3 hg _) (cwV 0 hts (gT (inV (mr5 _ (List.mem_of_getElem? (i := 19) rfl)) (mr5 _ (List.mem_of_getElem? (i := 20) rfl)) (mr5 _ (List.mem_of_getElem? (i := 21) rfl)) (mr1 _ (List.mem_of_getElem? (i := 19) rfl)) (mr5 _ (List.mem_of_getElem? (i := 22) rfl)))) rfl rfl rfl (by decide +kernel) ⟨Nat.le_of_ble_eq_true rfl, Nat.le_of_ble_eq_true rfl⟩) (Wd.preV zo hA hZ hw hK m_r_3 o_r_3 rfl) rfl rfl hl.1 rfl (lv_room (Nat.le_of_ble_eq_true rfl)) dX9_book_21 ⟨Nat.le_of_ble_eq_true rfl, Nat.le_of_ble_eq_true rfl⟩) (fun x_4 L1 f1 H locs lx_4 ux_4 ex_4 hw => ?_)
    obtain ⟨rfl, rfl, ex_4⟩ := ex_4
    refine q_if_eq (tgt := 29) hx hb dX9_book_24 (by decide) ⟨lx_4, ux_4⟩ (fun c24 => ?_) (fun c24 => ?_)
    · refine q_new (ci := 4) (C := RX5) (T := TX5) (N := 10) (fs := [.null, .int 0, .int 0, .int 0, .int 0, .int 0, .int 0, .int 0, .int 0, .int 0]) hx hb hts (fun w h => List.mem_cons_of_mem _ (mfX50 w h)) tyX5 tyX5_ok hown (hts _ (List.mem_cons_of_mem _ (mr5 _ (List.mem_of_getElem? (i := 16) rfl)))) (hts _ (List.mem_cons_of_mem _ (mr5 _ (List.mem_of_getElem? (i := 17) rfl)))) (hts _ (List.mem_cons_of_mem _ (mr5 _ (List.mem_of_getElem? (i := 18) rfl)))) hK hw hA rfl (by decide) (Nat.le_of_ble_eq_true rfl) (Nat.le_of_ble_eq_true rfl) dX9_book_29 (fun q_5 H n_q_5 hw => ?_)
      obtain ⟨f_6, ef_6⟩ : ∃ g : Nat → va_E, g = va_up f_2 q_5 (.inr (4, [.null, .int 0, .int 0, .int 0, .int 0, .int 0, .int 0, .int 0, .int 0, .int 0])) := ⟨_, rfl⟩
      rw [← ef_6] at hw
      have hX : Al cy L0 f_2 f_6 := by rw [ef_6]; exact Al.push n_q_5
      have hg : GI cy L0 f_6 := by rw [ef_6]; exact hg.push n_q_5
      have hM : ∀ x ∈ L0, x ∈ L0 ++ [q_5] := fun x h => List.mem_append_left _ h
      have hs0 := hs
      have hold : ∀ x ∈ L0, f_6 x = f7 x := fun x h => Eq.trans (by rw [ef_6]; exact va_up_ne _ _ (fun z => n_q_5 (z ▸ hs0 x h))) (hold x h)
      have hE := hE.trans hs (hX)
      have o_a0 := hX.1 _ m_a0 _ o_a0
      have mg_a0 := m_a0
      have m_a0 := hM _ m_a0
      have hs : ∀ x ∈ L0, x ∈ L0 ++ [q_5] := fun x h => hM x (hs x h)
      have m_q_5 : q_5 ∈ L0 ++ [q_5] := List.mem_append_right _ (List.mem_singleton.mpr rfl)
      have o_q_5 : Ob f_6 q_5 4 := by rw [ef_6]; exact ⟨_, va_up_self _ _ _, rfl⟩
      refine lv_dup hx hb dX9_book_32 rfl ?_
      refine lv_aload_n hx hb dX9_book_33 rfl (lv_at hl 1 rfl) ?_
      obtain ⟨r_7, er_7, mg_r_7, o_r_7⟩ := (show ∃ r, fR f_6 a0 0 = some r ∧ r ∈ L0 ∧ ArI f_6 r cy.1 168 from hg.2.1 _ mg_a0 7 0 o_a0)
      have m_r_7 := hM _ mg_r_7
      refine q_getr (ci := 7) (C := RX9) (T := TX9) (N := 4) hx hb hts (fun w h => List.mem_cons_of_mem _ (mfX90 w h)) hown hK hw m_a0 o_a0 rfl 0 (by decide) (hts _ (List.mem_cons_of_mem _ (mr1 _ (List.mem_of_getElem? (i := 15) rfl)))) (fun _ h => h) rfl er_7 dX9_book_34 ?_
      have e34 : r_7 = tp := Option.some.inj (er_7.symm.trans ((fR_of (hold a0 ma0)).trans ((fR_W (k7 0 (by decide))).trans et)))
      refine lv_iload_n hx hb dX9_book_37 rfl (lv_at hl 0 rfl) ?_
      refine q_call_v hA hK hw (va_runI (As := [.ref r_7, .int (iI x_1)]) (rest := [.ref q_5]) ⟨hx, hb, hml, hown, hts⟩ (c_X5_init_p zo l D cy (L0 ++ [q_5]) f_6 q_5 r_7 x_1 lx_1 ux_1 m_q_5 o_q_5 m_r_7 o_r_7 (L0) hM hg mg_r_7 (by omega) (by omega) _) (cwI 2 hts (gT (inC (mr6 _ (List.mem_of_getElem? (i := 1) rfl)))) rfl rfl rfl (hts _ (List.mem_cons_of_mem _ (mr5 _ (List.mem_of_getElem? (i := 18) rfl)))) (hts _ (List.mem_cons_of_mem _ (mr5 _ (List.mem_of_getElem? (i := 23) rfl)))) (hts _ (List.mem_cons_of_mem _ (mr6 _ (List.mem_of_getElem? (i := 0) rfl)))) rfl (by decide +kernel) ⟨Nat.le_of_ble_eq_true rfl, Nat.le_of_ble_eq_true rfl⟩) (Wd.preS zo hA hZ hw hK) rfl rfl hl.1 rfl (lv_room (Nat.le_of_ble_eq_true rfl)) dX9_book_38 ⟨Nat.le_of_ble_eq_true rfl, Nat.le_of_ble_eq_true rfl⟩) (fun L1 f_9 H locs ex_8 hw => ?_)
      obtain ⟨rfl, hg, hX, ex_8⟩ := ex_8
      have hE := hE.trans hs (hX.ey.al _)
      have o_a0 := hX.1.1 _ _ o_a0
      have o_q_5 := hX.1.1 _ _ o_q_5
      have o_r_7 := hX.1.2.1 _ _ _ o_r_7
      have hold : ∀ x ∈ L0, f_9 x = f7 x := fun x h => (ex_8.1 x (hs x h) (fun z => n_q_5 (z ▸ hs0 x h))).trans (hold x h)
      have nq0 : q_5 ∉ L0 := fun h => n_q_5 (hs0 _ h)
      have ex_8 := ex_8.2
      have einit := ex_8
      have hg := hg.addOb o_q_5 (fcond_4 ex_8.1) (rcond_4 ⟨ex_8.2.1, List.mem_append_left _ mg_r_7, o_r_7⟩)
      have rq9 : RT Tt (fI f0 a0 1) f_9 q_5 tp := rtq einit.2.1 e34 einit.2.2.1 (by omega) (by omega) (by omega) hT (hold tp mtp.1) (h7 tp mtp.1 (fun z => by have q := mtp.2; rw [z] at q; exact oa7.notI q)) (fun z => nq0 (by rw [z]; exact mtp.1))
      have nq9 := nq0
      have hold9 := hold
      refine lv_astore_n (lv' := [(2, .ref q_5), (1, .int (iI x_1)), (0, .ref a0)]) hx hb dX9_book_41 rfl hl (by decide) rfl (fun ls hl => ?_)
      refine lv_aload_n hx hb dX9_book_42 rfl (lv_at hl 0 rfl) ?_
      refine lv_aload_n hx hb dX9_book_43 rfl (lv_at hl 2 rfl) ?_
      obtain ⟨r_10, er_10, m_r_10, o_r_10⟩ := (show ∃ r, fR f_9 a0 2 = some r ∧ r ∈ (L0 ++ [q_5]) ∧ Ob f_9 r 5 from hg.2.1 _ m_a0 7 2 o_a0)
      refine q_getr (ci := 7) (C := RX9) (T := TX9) (N := 4) hx hb hts (fun w h => List.mem_cons_of_mem _ (mfX90 w h)) hown hK hw m_a0 o_a0 rfl 2 (by decide) (hts _ (List.mem_cons_of_mem _ (mr1 _ (List.mem_of_getElem? (i := 20) rfl)))) (fun _ h => h) rfl er_10 dX9_book_44 ?_
      have sx9 : SX f_9 a0 rq g mm := sx.offA hg0 ma0 oa7 (fun y m n => (hold y m).trans (h7 y m n)) ((show fV f_9 a0 2 = fV f7 a0 2 by unfold fV; rw [hold a0 ma0]).trans (k7 2 (by decide)))
      have s44 := sx9.at er_10
      refine q_call_r hA hK hw (va_runV (As := []) (rest := [.ref q_5]) ⟨hx, hb, hml, hown, hts⟩ (c_X7_spare_f zo l D cy (L0 ++ [q_5]) f_9 r_10 m_r_10 o_r_10 hg (by omega) _) (cwV 0 hts (gT (inV (mr6 _ (List.mem_of_getElem? (i := 17) rfl)) (mr6 _ (List.mem_of_getElem? (i := 18) rfl)) (mr6 _ (List.mem_of_getElem? (i := 19) rfl)) (mr1 _ (List.mem_of_getElem? (i := 19) rfl)) (mr6 _ (List.mem_of_getElem? (i := 20) rfl)))) rfl rfl rfl (by decide +kernel) ⟨Nat.le_of_ble_eq_true rfl, Nat.le_of_ble_eq_true rfl⟩) (Wd.preV zo hA hZ hw hK m_r_10 o_r_10 rfl) rfl rfl hl.1 rfl (lv_room (Nat.le_of_ble_eq_true rfl)) dX9_book_47 ⟨Nat.le_of_ble_eq_true rfl, Nat.le_of_ble_eq_true rfl⟩) (fun x_11 L1 f1 H locs ex_11 hw => ?_)
      obtain ⟨rfl, rfl, ex_11⟩ := ex_11
      obtain ⟨m_x_11, o_x_11, ex_11⟩ := ex_11
      have gy := (s44.1.row ex_11 (by omega) (by omega)).trans (by rw [s44.2.1])
      have nsp : a0 ≠ x_11 := fun z => by have q := o_x_11; rw [← z] at q; exact absurd (q.uniq o_a0) (by decide)
      refine q_call_i hA hK hw (va_runV (As := [.ref x_11]) (rest := []) ⟨hx, hb, hml, hown, hts⟩ (c_X5_read_p zo l D cy (L0 ++ [q_5]) f_9 q_5 x_11 m_q_5 o_q_5 m_x_11 o_x_11 hg Tt (fI f0 a0 1) tp rq9 einit.2.2.2.1 einit.2.2.2.2 _) (cwV 1 hts (gT (inV (mr6 _ (List.mem_of_getElem? (i := 22) rfl)) (mr6 _ (List.mem_of_getElem? (i := 23) rfl)) (mr7 _ (List.mem_of_getElem? (i := 0) rfl)) (mr5 _ (List.mem_of_getElem? (i := 18) rfl)) (mr7 _ (List.mem_of_getElem? (i := 1) rfl)))) rfl rfl rfl (by decide +kernel) ⟨Nat.le_of_ble_eq_true rfl, Nat.le_of_ble_eq_true rfl⟩) (Wd.preV zo hA hZ hw hK m_q_5 o_q_5 rfl) rfl rfl hl.1 rfl (lv_room (Nat.le_of_ble_eq_true rfl)) dX9_book_50 ⟨Nat.le_of_ble_eq_true rfl, Nat.le_of_ble_eq_true rfl⟩) (fun x_12 L_14 f_13 H locs lx_12 ux_12 ex_12 hw => ?_)
      obtain ⟨hs1, hg, hX, ex_12⟩ := ex_12
      have hE := hE.trans hs (hX)
      have o_q_5 := hX.1 _ m_q_5 _ o_q_5
      have o_a0 := hX.1 _ m_a0 _ o_a0
      have m_q_5 := hs1 _ m_q_5
      have m_a0 := hs1 _ m_a0
      have hs : ∀ x ∈ L0, x ∈ L_14 := fun x h => hs1 x (hs x h)
      have t50 := ex_12
      refine lv_istore_n (lv' := [(3, .int (iI x_12)), (2, .ref q_5), (1, .int (iI x_1)), (0, .ref a0)]) hx hb dX9_book_53 rfl hl (by decide) rfl (fun ls hl => ?_)
      refine lv_iload_n hx hb dX9_book_54 rfl (lv_at hl 0 rfl) ?_
      refine q_if_eq (tgt := 63) hx hb dX9_book_55 (by decide) ⟨lx_12, ux_12⟩ (fun c55 => ?_) (fun c55 => ?_)
      · obtain ⟨_, w50, rb, ol⟩ := t50.resolve_right (by omega)
        have fr : ∀ y ∈ L0, y ≠ a0 → y ≠ rq mm → f_13 y = f0 y := fun y m n1 n2 => (ol y (List.mem_append_left _ m) (fun z => nq9 (z ▸ m)) (fun z => n2 (z.trans gy))).trans ((hold9 y m).trans (h7 y m n1))
        have ea9 := (ol a0 (List.mem_append_left _ ma0) (fun z => nq9 (z ▸ ma0)) nsp).trans (hold9 a0 ma0)
        have ka : ∀ k : Nat, k ≠ 1 → fV f_13 a0 k = fV f0 a0 k := fun k h => (show fV f_13 a0 k = fV f7 a0 k by unfold fV; rw [ea9]).trans (k7 k h)
        have za : fI f_13 a0 1 = 0 := (fI_of ea9).trans z7
        refine lv_aload_n hx hb dX9_book_63 rfl (lv_at hl 3 rfl) ?_
        obtain ⟨r_15, er_15, m_r_15, o_r_15⟩ := (show ∃ r, fR f_13 a0 2 = some r ∧ r ∈ L_14 ∧ Ob f_13 r 5 from hg.2.1 _ m_a0 7 2 o_a0)
        refine q_getr (ci := 7) (C := RX9) (T := TX9) (N := 4) hx hb hts (fun w h => List.mem_cons_of_mem _ (mfX90 w h)) hown hK hw m_a0 o_a0 rfl 2 (by decide) (hts _ (List.mem_cons_of_mem _ (mr1 _ (List.mem_of_getElem? (i := 20) rfl)))) (fun _ h => h) rfl er_15 dX9_book_64 ?_
        have e640 : fR f0 a0 2 = some r_15 := (fR_W (ka 2 (by decide))).symm.trans er_15
        have s64 := sx.at e640
        have m64 := shelf_in hg0 ma0 oa7 e640
        have z64 : fI f_13 r_15 1 = mm := (fI_of (fr r_15 m64.1 (fun z => by have q := m64.2; rw [z] at q; exact absurd (q.uniq oa7) (by decide)) (fun z => by have q := s64.1.1.2.2.1 mm (by omega) (by omega); rw [← z] at q; exact absurd (q.uniq m64.2) (by decide)))).trans s64.2.1
        obtain ⟨f9, ef9⟩ : ∃ z : Nat → va_E, z = f_13 := ⟨_, rfl⟩
        refine q_call_i hA hK hw (va_runV (As := []) (rest := []) ⟨hx, hb, hml, hown, hts⟩ (c_X7_keepSpare_f zo l D cy L_14 f_13 r_15 m_r_15 o_r_15 hg (by omega) _) (cwV 0 hts (gT (inV (mr18 _ (List.mem_of_getElem? (i := 16) rfl)) (mr18 _ (List.mem_of_getElem? (i := 17) rfl)) (mr18 _ (List.mem_of_getElem? (i := 18) rfl)) (mr1 _ (List.mem_of_getElem? (i := 19) rfl)) (mr18 _ (List.mem_of_getElem? (i := 19) rfl)))) rfl rfl rfl (by decide +kernel) ⟨Nat.le_of_ble_eq_true rfl, Nat.le_of_ble_eq_true rfl⟩) (Wd.preV zo hA hZ hw hK m_r_15 o_r_15 rfl) rfl rfl hl.1 rfl (lv_room (Nat.le_of_ble_eq_true rfl)) dX9_book_67 ⟨Nat.le_of_ble_eq_true rfl, Nat.le_of_ble_eq_true rfl⟩) (fun x_16 L1 f_17 H locs lx_16 ux_16 ex_16 hw => ?_)
        obtain ⟨rfl, hg, hX, ex_16⟩ := ex_16
        have hE := hE.trans hs (hX.ey.al _)
        have o_q_5 := hX.1.1 _ _ o_q_5
        have o_a0 := hX.1.1 _ _ o_a0
        have t67 := ex_16
        exact q_ret_i hx hb hr hlocks hK hAe hw ⟨lx_16, ux_16⟩ (Nat.le_of_ble_eq_true rfl) (Nat.le_of_ble_eq_true rfl) dX9_book_70 (by exact ⟨hs, hg, hE, Or.inr (Or.inr ⟨by omega, by omega, w50, by omega, _, f9, e640, ⟨by rw [ef9]; exact fr, by rw [ef9]; exact ka, by rw [ef9]; exact za⟩, by rw [ef9, ← gy]; exact rb, by rw [ef9]; exact t67.2.2, by omega⟩)⟩)
      · obtain ⟨_, w50, ol⟩ := t50.resolve_left (by omega)
        have fr : ∀ y ∈ L0, y ≠ a0 → y ≠ rq mm → f_13 y = f0 y := fun y m n1 n2 => (ol y (List.mem_append_left _ m) (fun z => nq9 (z ▸ m)) (fun z => n2 (z.trans gy))).trans ((hold9 y m).trans (h7 y m n1))
        have ea9 := (ol a0 (List.mem_append_left _ ma0) (fun z => nq9 (z ▸ ma0)) nsp).trans (hold9 a0 ma0)
        have ka : ∀ k : Nat, k ≠ 1 → fV f_13 a0 k = fV f0 a0 k := fun k h => (show fV f_13 a0 k = fV f7 a0 k by unfold fV; rw [ea9]).trans (k7 k h)
        have za : fI f_13 a0 1 = 0 := (fI_of ea9).trans z7
        refine q_bipush hx hb dX9_book_58 rfl ?_
        refine lv_iload_n hx hb dX9_book_60 rfl (lv_at hl 0 rfl) ?_
        first | refine q_isub hx hb dX9_book_61 ⟨by omega, by omega⟩ (fun x_18 lx_18 ux_18 ex_18 => ?_) | refine q_isubw hx hb dX9_book_61 (fun x_18 lx_18 ux_18 _ => ?_)
        exact q_ret_i hx hb hr hlocks hK hAe hw ⟨lx_18, ux_18⟩ (Nat.le_of_ble_eq_true rfl) (Nat.le_of_ble_eq_true rfl) dX9_book_62 (by exact ⟨hs, hg, hE, Or.inr (Or.inl ⟨by omega, by omega, by omega, by omega, fr, ka, za⟩)⟩)
    · refine q_iconst hx hb dX9_book_27 ?_
      exact q_ret_i hx hb hr hlocks hK hAe hw ⟨by decide, by decide⟩ (Nat.le_of_ble_eq_true rfl) (Nat.le_of_ble_eq_true rfl) dX9_book_28 (by exact ⟨hs, hg, hE, Or.inl ⟨by omega, by omega, by rw [← ef7]; exact h7, by rw [← ef7]; exact k7, by rw [← ef7]; exact z7⟩⟩)
