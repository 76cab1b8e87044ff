/-! ===== from when, how many times, until when ===== -/
noncomputable def spF (T : Int → Int) (n e : Int) : Int :=
  if wS T n e wFrom ≠ 0 then wS T n e wFrom else if daF T n (tQn T n 1 e) ≠ 0 then daF T n (tQn T n 1 e) else
  if wS T n (tQn T n 4 e) wTimes = 0 then nS T n (tQn T n 5 e) 1 999 else
  if wS T n (tQn T n 4 e) wUntil = 0 then (if daF T n (tQn T n 5 e) ≠ 0 then daF T n (tQn T n 5 e) else if daV T n (tQn T n 5 e) < daV T n (tQn T n 1 e) then 8 * tP T n (tQn T n 5 e) + 3 else 0) else 0
noncomputable def spU (T : Int → Int) (n e : Int) : Int := if wS T n (tQn T n 4 e) wTimes = 0 then -1 else if wS T n (tQn T n 4 e) wUntil = 0 then daV T n (tQn T n 5 e) else -1
noncomputable def spT (T : Int → Int) (n e : Int) : Int := if wS T n (tQn T n 4 e) wTimes = 0 then vN T n (tQn T n 5 e) else -1
noncomputable def spE (T : Int → Int) (n e : Int) : Int := if wS T n (tQn T n 4 e) wTimes = 0 then tQn T n 6 e else if wS T n (tQn T n 4 e) wUntil = 0 then tQn T n 8 e else tQn T n 4 e
theorem sp_from {T : Int → Int} {n e : Int} (h : wS T n e wFrom ≠ 0) : spF T n e = wS T n e wFrom := by unfold spF; rw [if_pos h]
theorem sp_date {T : Int → Int} {n e : Int} (h : wS T n e wFrom = 0) (g : daF T n (tQn T n 1 e) ≠ 0) : spF T n e = daF T n (tQn T n 1 e) := by unfold spF; rw [if_neg (by omega), if_pos g]
theorem sp_times {T : Int → Int} {n e : Int} (h : wS T n e wFrom = 0) (g : daF T n (tQn T n 1 e) = 0) (t : wS T n (tQn T n 4 e) wTimes = 0) : spF T n e = nS T n (tQn T n 5 e) 1 999 ∧ spU T n e = -1 ∧ spT T n e = vN T n (tQn T n 5 e) ∧ spE T n e = tQn T n 6 e := by
  unfold spF spU spT spE; rw [if_neg (by omega), if_neg (by omega), if_pos t, if_pos t, if_pos t, if_pos t]; exact ⟨rfl, rfl, rfl, rfl⟩
theorem sp_until {T : Int → Int} {n e : Int} (h : wS T n e wFrom = 0) (g : daF T n (tQn T n 1 e) = 0) (t : wS T n (tQn T n 4 e) wTimes ≠ 0) (u : wS T n (tQn T n 4 e) wUntil = 0) : (daF T n (tQn T n 5 e) ≠ 0 → spF T n e = daF T n (tQn T n 5 e)) ∧ (daF T n (tQn T n 5 e) = 0 → daV T n (tQn T n 5 e) < daV T n (tQn T n 1 e) → spF T n e = 8 * tP T n (tQn T n 5 e) + 3) ∧ (daF T n (tQn T n 5 e) = 0 → daV T n (tQn T n 1 e) ≤ daV T n (tQn T n 5 e) → spF T n e = 0) ∧ spU T n e = daV T n (tQn T n 5 e) ∧ spT T n e = -1 ∧ spE T n e = tQn T n 8 e := by
  unfold spF spU spT spE; rw [if_neg (by omega), if_neg (by omega), if_neg t, if_neg t, if_neg t, if_neg t, if_pos u, if_pos u, if_pos u]
  refine ⟨fun q => if_pos q, fun q r => ?_, fun q r => ?_, rfl, rfl, rfl⟩
  · rw [if_neg (by omega), if_pos r]
  · rw [if_neg (by omega), if_neg (by omega)]
theorem sp_no {T : Int → Int} {n e : Int} (h : wS T n e wFrom = 0) (g : daF T n (tQn T n 1 e) = 0) (t : wS T n (tQn T n 4 e) wTimes ≠ 0) (u : wS T n (tQn T n 4 e) wUntil ≠ 0) : spF T n e = 0 ∧ spU T n e = -1 ∧ spT T n e = -1 ∧ spE T n e = tQn T n 4 e := by
  unfold spF spU spT spE; rw [if_neg (by omega), if_neg (by omega), if_neg t, if_neg t, if_neg t, if_neg t, if_neg u, if_neg u, if_neg u]; exact ⟨rfl, rfl, rfl, rfl⟩
/-- of the old cells, two alone have changed -/
def OL (L : List Nat) (f g : Nat → va_E) (a b : Nat) : Prop := ∀ y ∈ L, y ≠ a → y ≠ b → g y = f y
theorem OL.refl (L : List Nat) (f : Nat → va_E) (a b : Nat) : OL L f f a b := fun _ _ _ _ => rfl
theorem OL.oa {L : List Nat} {f g h : Nat → va_E} {a b : Nat} (x : OL L f g a b) (y : OA g h a) : OL L f h a b := fun z m q r => (y z q).trans (x z m q r)
theorem OL.ob {L : List Nat} {f g h : Nat → va_E} {a b : Nat} (x : OL L f g a b) (y : OB g h a b) : OL L f h a b := fun z m q r => (y z q r).trans (x z m q r)
theorem OL.oab {L : List Nat} {f g h : Nat → va_E} {a b : Nat} (x : OL L f g a b) (y : OA g h b) : OL L f h a b := fun z m q r => (y z r).trans (x z m q r)
theorem OL.put {L : List Nat} {f g h : Nat → va_E} {a b k : Nat} {v : Value} (x : OL L f g a b) (e : h = pU g b k v) : OL L f h a b := by rw [e]; exact fun z m q r => (pU_ne r).trans (x z m q r)
theorem OL.hold {L M : List Nat} {f g h : Nat → va_E} {a b : Nat} (x : OL L f g a b) (s : ∀ y ∈ L, y ∈ M) (y : ∀ z ∈ M, h z = g z) : OL L f h a b := fun z m q r => (y z (s z m)).trans (x z m q r)
/-- a Booking as it is begun -/
def BG (f0 f : Nat → va_E) (b : Nat) (k n s v w u t : Int) : Prop := fI f b 0 = fI f0 b 0 ∧ fI f b 1 = fI f0 b 1 ∧ fI f b 2 = fI f0 b 2 ∧ (∃ r : Nat, r ≠ b ∧ fR f b 3 = some r ∧ RuK f r k n s v w) ∧ fI f b 4 = u ∧ fI f b 5 = t ∧ fI f b 6 = s
theorem BG.oa {f0 f g : Nat → va_E} {a b : Nat} {k n s v w u t : Int} (h : BG f0 f b k n s v w u t) (o : OA f g a) (oa : Ob f a 4) (ne : b ≠ a) : BG f0 g b k n s v w u t := by
  obtain ⟨h0, h1, h2, ⟨r, hn, hr, hk⟩, h4, h5, h6⟩ := h
  have e := o b ne
  have nr : r ≠ a := fun z => by
    rw [z] at hk
    rcases hk.rl with q | q | q | q <;> exact absurd (oa.uniq q) (by decide)
  exact ⟨(fI_of e).trans h0, (fI_of e).trans h1, (fI_of e).trans h2, ⟨r, hn, (fR_of e).trans hr, hk.of (o r nr)⟩, (fI_of e).trans h4, (fI_of e).trans h5, (fI_of e).trans h6⟩
theorem BG.p5 {f0 f g : Nat → va_E} {b : Nat} {k n s v w u t x y : Int} (h : BG f0 f b k n s v w u t) (o : Ob f b 0) (rx : rg x) (e : g = pU f b 5 (.int (iI x))) (ey : x = y) : BG f0 g b k n s v w u y := by
  obtain ⟨h0, h1, h2, ⟨r, hn, hr, hk⟩, h4, h5, h6⟩ := h
  rw [e, ← ey]
  exact ⟨(fI_pU (Or.inr (by decide))).trans h0, (fI_pU (Or.inr (by decide))).trans h1, (fI_pU (Or.inr (by decide))).trans h2, ⟨r, hn, (fR_pU (Or.inr (by decide))).trans hr, hk.of (pU_ne hn)⟩, (fI_pU (Or.inr (by decide))).trans h4, fI_pU_self o rfl rx, (fI_pU (Or.inr (by decide))).trans h6⟩
theorem BG.u {f0 f g : Nat → va_E} {a b : Nat} {k n s v w u t y : Int} (h : BG f0 f b k n s v w u t) (kb : KB f g b 4) (e4 : fI g b 4 = y) (o : OB f g a b) (oa : Ob f a 4) : BG f0 g b k n s v w y t := by
  obtain ⟨h0, h1, h2, ⟨r, hn, hr, hk⟩, h4, h5, h6⟩ := h
  have nr : r ≠ a := fun z => by
    rw [z] at hk
    rcases hk.rl with q | q | q | q <;> exact absurd (oa.uniq q) (by decide)
  exact ⟨(fI_W (kb 0 (by decide))).trans h0, (fI_W (kb 1 (by decide))).trans h1, (fI_W (kb 2 (by decide))).trans h2, ⟨r, hn, (fR_W (kb 3 (by decide))).trans hr, hk.of (o r nr hn)⟩, e4, (fI_W (kb 5 (by decide))).trans h5, (fI_W (kb 6 (by decide))).trans h6⟩
theorem K69.of {f g : Nat → va_E} {a : Nat} {F k n v w : Int} (h : K69 f a F k n v w) (e : g a = f a) : K69 g a F k n v w := ⟨(fI_of e).trans h.1, (fI_of e).trans h.2.1, (fI_of e).trans h.2.2.1, (fI_of e).trans h.2.2.2.1, (fI_of e).trans h.2.2.2.2⟩
theorem RS.of {T : Int → Int} {n e : Int} {f g : Nat → va_E} {a : Nat} (h : RS T n f a e) (q : g a = f a) : RS T n g a e := ⟨(fI_of q).trans h.1, (fI_of q).trans h.2.1, (fI_of q).trans h.2.2⟩
theorem RT.of {T : Int → Int} {n : Int} {f g : Nat → va_E} {a tp : Nat} (h : RT T n f a tp) (q : g a = f a) (p : g tp = f tp) : RT T n g a tp := by
  obtain ⟨h1, h2, h3, h4, h5, h6⟩ := h
  refine ⟨(fR_of q).trans h1, (fI_of q).trans h2, h3, h4, h5, fun i i0 i1 => ?_⟩
  have : aI g tp i = aI f tp i := by unfold aI; rw [p]
  rw [this]; exact h6 i i0 i1
theorem text_in {cy : Cy} {M : List Nat} {f : Nat → va_E} {a tp : Nat} {T : Int → Int} {n : Int} (hg : GI cy M f) (ma : a ∈ M) (oa : Ob f a 4) (rt : RT T n f a tp) : tp ∈ M ∧ ArI f tp cy.1 168 := by
  obtain ⟨r, r1, r2, r3⟩ := (show ∃ r, fR f a 0 = some r ∧ r ∈ M ∧ ArI f r cy.1 168 from hg.2.1 _ ma 4 0 oa)
  rw [← Option.some.inj (r1.symm.trans rt.1)]
  exact ⟨r2, r3⟩
theorem BG.start {f0 f g : Nat → va_E} {b r : Nat} {k n s v w : Int} (e : f b = f0 b) (h : OA f g b ∧ fI g b 0 = fI f b 0 ∧ fI g b 1 = fI f b 1 ∧ fI g b 2 = fI f b 2 ∧ fR g b 3 = some r ∧ fI g b 4 = -1 ∧ fI g b 5 = -1 ∧ fI g b 6 = fI f r 2) (ne : r ≠ b) (ru : RuK f r k n s v w) : BG f0 g b k n s v w (-1) (-1) := by
  obtain ⟨o, h0, h1, h2, h3, h4, h5, h6⟩ := h
  exact ⟨h0.trans (fI_of e), h1.trans (fI_of e), h2.trans (fI_of e), ⟨r, ne, h3, ru.of (o r ne)⟩, h4, h5, h6.trans ru.1.2.2.1⟩
def SB9 (s u t : Int) : Prop := 0 ≤ s ∧ s ≤ 36524 ∧ (u = -1 ∨ (s ≤ u ∧ u ≤ 36524)) ∧ (t = -1 ∨ (1 ≤ t ∧ t ≤ 999 ∧ u = -1))
theorem BG.to {f0 f : Nat → va_E} {b : Nat} {k n s v w u t u' t' : Int} (h : BG f0 f b k n s v w u t) (eu : u' = u) (et : t' = t) : BG f0 f b k n s v w u' t' := by rw [eu, et]; exact h
/-! ===== a text is booked ===== -/
theorem wk_e {T : Int → Int} {n : Int} (k : Nat) : ∀ e s : Int, 0 ≤ e → e ≤ n → 0 ≤ (wkF T n k e s).2.2 ∧ (wkF T n k e s).2.2 ≤ n := by
  induction k with
  | zero => intro e s h0 h1; exact ⟨h0, h1⟩
  | succ k ih =>
    intro e s h0 h1
    have a := tP_b (T := T) h1
    have b := tQ_b (T := T) h1
    show 0 ≤ (if wdv T n e = -1 then ((if s = 0 then 8 * tP T n e + 1 else 0), s, e) else if wb s (wdv T n e) = true then (8 * tP T n e + 2, s, e) else wkF T n k (tQ T n e) (s + p2 (wdv T n e))).2.2 ∧ (if wdv T n e = -1 then ((if s = 0 then 8 * tP T n e + 1 else 0), s, e) else if wb s (wdv T n e) = true then (8 * tP T n e + 2, s, e) else wkF T n k (tQ T n e) (s + p2 (wdv T n e))).2.2 ≤ n
    split
    · exact ⟨h0, h1⟩
    · split
      · exact ⟨h0, h1⟩
      · exact ih _ _ (by omega) (by omega)
theorem p2_tab : ∀ a : Nat, a < 128 → ∀ b : Nat, b < 7 → wb (a : Int) (b : Int) = false → (a : Int) + p2 (b : Int) ≤ 127 ∧ 1 ≤ p2 (b : Int) := by decide +kernel
theorem p2_b {s w : Int} (s0 : 0 ≤ s) (s1 : s ≤ 127) (w0 : 0 ≤ w) (w1 : w ≤ 6) (h : wb s w = false) : s + p2 w ≤ 127 ∧ 1 ≤ p2 w := by
  have t := p2_tab s.toNat (by omega) w.toNat (by omega)
  rw [show ((s.toNat : Nat) : Int) = s by omega, show ((w.toNat : Nat) : Int) = w by omega] at t
  exact t h
theorem wk_b {T : Int → Int} {n : Int} (k : Nat) : ∀ e s : Int, 0 ≤ e → e ≤ n → 0 ≤ s → s ≤ 127 → (1 ≤ s ∨ 0 < k) → (wkF T n k e s).1 = 0 → 1 ≤ (wkF T n k e s).2.1 ∧ (wkF T n k e s).2.1 ≤ 127 := by
  induction k with
  | zero => intro e s h0 h1 s0 s1 c _; exact ⟨by show 1 ≤ s; omega, s1⟩
  | succ k ih =>
    intro e s h0 h1 s0 s1 c
    have a := tP_b (T := T) h1
    have b := tQ_b (T := T) h1
    have wv := wdv_b T n e
    rcases Classical.em (wdv T n e = -1) with q | q
    · rw [wk_stop (Nat.succ_pos k) q]
      intro z
      have z : (if s = 0 then 8 * tP T n e + 1 else 0) = 0 := z
      by_cases y : s = 0
      · rw [if_pos y] at z; omega
      · exact ⟨by show 1 ≤ s; omega, s1⟩
    · cases y : wb s (wdv T n e)
      · rw [wk_go rfl q y]
        have p := p2_b s0 s1 (by omega) (by omega) y
        exact ih _ _ (by omega) (by omega) (by omega) (by omega) (Or.inl (by omega))
      · rw [wk_dup (Nat.succ_pos k) q y]
        intro z
        have z : 8 * tP T n e + 2 = 0 := z
        omega
theorem moE_b {T : Int → Int} {n e : Int} (h0 : 0 ≤ e) (h1 : e ≤ n) : 0 ≤ moE T n e ∧ moE T n e ≤ n := by
  have a := tQn_b (T := T) h0 h1 2
  have b := tQn_b (T := T) h0 h1 3
  unfold moE
  repeat' split
  all_goals omega
theorem ruE_b {T : Int → Int} {n e : Int} (h0 : 0 ≤ e) (h1 : e ≤ n) : 0 ≤ ruE T n e ∧ ruE T n e ≤ n := by
  have a := tQn_b (T := T) h0 h1 1
  have b := tQn_b (T := T) h0 h1 3
  have c := wk_e (T := T) (n := n) 8 (tQn T n 3 e) 0 b.1 b.2
  have d := moE_b (T := T) b.1 b.2
  unfold ruE
  repeat' split
  all_goals omega
theorem spE_b {T : Int → Int} {n e : Int} (h0 : 0 ≤ e) (h1 : e ≤ n) : 0 ≤ spE T n e ∧ spE T n e ≤ n := by
  have a := tQn_b (T := T) h0 h1 4
  have b := tQn_b (T := T) h0 h1 6
  have c := tQn_b (T := T) h0 h1 8
  unfold spE
  repeat' split
  all_goals omega
theorem mo_ok {T : Int → Int} {n e m : Int} (h0 : 0 ≤ e) (h1 : e ≤ n) (m1 : 1 ≤ m) (m2 : m ≤ 999) (h : moF T n e = 0) : okP (moK T n e) m (moV T n e) (moW T n e) := by
  have a := tQn_b (T := T) h0 h1 1
  have b := tQn_b (T := T) h0 h1 2
  have w1 := wdv_b T n (tQn T n 1 e)
  have w2 := wdv_b T n (tQn T n 2 e)
  have p1 := tP_b (T := T) (n := n) a.2
  have p2 := tP_b (T := T) (n := n) b.2
  by_cases c1 : wS T n e wOn = 0
  · obtain ⟨z1, z2, z3, z4, z5⟩ := mo_on c1
    have q := (nS_b (T := T) (n := n) (lo := 1) (hi := 31) a.1 a.2).2 (z1.symm.trans h)
    rw [z2, z3, z4]; exact Or.inr (Or.inr (Or.inr ⟨m1, m2, Or.inl ⟨rfl, q.1, q.2, rfl⟩⟩))
  · by_cases c2 : wS T n e wEnd = 0
    · obtain ⟨z1, z2, z3, z4, z5⟩ := mo_end' c1 c2
      have q := (nS_b (T := T) (n := n) (lo := 1) (hi := 28) a.1 a.2).2 (z1.symm.trans h)
      rw [z2, z3, z4]; exact Or.inr (Or.inr (Or.inr ⟨m1, m2, Or.inr (Or.inl ⟨rfl, q.1, q.2, rfl⟩)⟩))
    · by_cases c3 : wS T n e wNth = 0
      · obtain ⟨z0, z1, z2, z3, z4, z5⟩ := mo_nth c1 c2 c3
        have q := nS_b (T := T) (n := n) (lo := 1) (hi := 5) a.1 a.2
        have k : wdv T n (tQn T n 2 e) ≠ -1 ∧ nS T n (tQn T n 1 e) 1 5 = 0 := by
          by_cases y : nS T n (tQn T n 1 e) 1 5 = 0
          · refine ⟨fun x => ?_, y⟩
            have := z1 y; rw [wdS_n x] at this; omega
          · have := z0 y; omega
        have q2 := q.2 k.2
        clear z0 z1 q
        rw [z2, z3, z4]; exact Or.inr (Or.inr (Or.inr ⟨m1, m2, Or.inr (Or.inr (Or.inl ⟨rfl, q2.1, q2.2, by omega, by omega⟩))⟩))
      · obtain ⟨z0, z1, z2, z3, z4, z5⟩ := mo_last c1 c2 c3
        have k : wdv T n (tQn T n 1 e) ≠ -1 := by
          by_cases y : wS T n e wLast = 0
          · intro x
            have := z1 y; rw [wdS_n x] at this; omega
          · have := z0 y; omega
        clear z0 z1
        rw [z2, z3, z4]; exact Or.inr (Or.inr (Or.inr ⟨m1, m2, Or.inr (Or.inr (Or.inr (Or.inl ⟨rfl, rfl, by omega, by omega⟩)))⟩))
theorem ru_ok {T : Int → Int} {n e : Int} (h0 : 0 ≤ e) (h1 : e ≤ n) (h : ruF T n e = 0) : okP (ruK T n e) (ruN T n e) (ruV T n e) (ruW T n e) := by
  have a := tQn_b (T := T) h0 h1 1
  have b := tQn_b (T := T) h0 h1 3
  by_cases c1 : wS T n e wOnce = 0
  · obtain ⟨z1, z2, z3, z4, z5, z6⟩ := ru_once c1
    rw [z2, z3, z4, z5]; exact Or.inl ⟨rfl, rfl, rfl, rfl⟩
  · by_cases c2 : wS T n e wEvery = 0
    · by_cases c3 : nS T n (tQn T n 1 e) 1 999 = 0
      · have q := (nS_b (T := T) (n := n) (lo := 1) (hi := 999) a.1 a.2).2 c3
        by_cases c4 : wS T n (tQn T n 2 e) wDays = 0
        · obtain ⟨z1, z2, z3, z4, z5, z6⟩ := ru_days c1 c2 c3 c4
          rw [z2, z3, z4, z5]; exact Or.inr (Or.inl ⟨rfl, q.1, q.2, rfl, rfl⟩)
        · by_cases c5 : wS T n (tQn T n 2 e) wYears = 0
          · obtain ⟨z1, z2, z3, z4, z5, z6⟩ := ru_years c1 c2 c3 c4 c5
            rw [z2, z3, z4, z5]; exact Or.inr (Or.inr (Or.inr ⟨q.1, q.2, Or.inr (Or.inr (Or.inr (Or.inr ⟨rfl, rfl, rfl⟩)))⟩))
          · by_cases c6 : wS T n (tQn T n 2 e) wWeeks = 0
            · obtain ⟨z1, z2, z3, z4, z5, z6⟩ := ru_weeks c1 c2 c3 c4 c5 c6
              have w := wk_b (T := T) (n := n) 8 (tQn T n 3 e) 0 b.1 b.2 (by omega) (by omega) (Or.inr (by omega)) (z1.symm.trans h)
              rw [z2, z3, z4, z5]; exact Or.inr (Or.inr (Or.inl ⟨rfl, q.1, q.2, w.1, w.2, rfl⟩))
            · by_cases c7 : wS T n (tQn T n 2 e) wMonths = 0
              · obtain ⟨z1, z2, z3, z4, z5, z6⟩ := ru_months c1 c2 c3 c4 c5 c6 c7
                rw [z2, z3, z4, z5]
                exact mo_ok b.1 b.2 q.1 q.2 (z1.symm.trans h)
              · have := ru_m0 c1 c2 c3 c4 c5 c6 c7; omega
      · have := ru_num c1 c2 c3; omega
    · have := ru_every c1 c2; omega
noncomputable def bE6 (T : Int → Int) (n : Int) : Int := tQn T n 6 0
noncomputable def bE7 (T : Int → Int) (n : Int) : Int := ruE T n (bE6 T n)
noncomputable def bE8 (T : Int → Int) (n : Int) : Int := spE T n (bE7 T n)
noncomputable def bkF (T : Int → Int) (n : Int) : Int := if plF T n 0 ≠ 0 then plF T n 0 else if ruF T n (bE6 T n) ≠ 0 then ruF T n (bE6 T n) else if spF T n (bE7 T n) ≠ 0 then spF T n (bE7 T n) else if tyA T n (tP T n (bE8 T n)) ≠ 0 then 8 * tP T n (bE8 T n) + 1 else 0
theorem bk_0 {T : Int → Int} {n : Int} (h : plF T n 0 ≠ 0) : bkF T n = plF T n 0 := by unfold bkF; rw [if_pos h]
theorem bk_1 {T : Int → Int} {n : Int} (h : plF T n 0 = 0) (g : ruF T n (bE6 T n) ≠ 0) : bkF T n = ruF T n (bE6 T n) := by unfold bkF; rw [if_neg (by omega), if_pos g]
theorem bk_2 {T : Int → Int} {n : Int} (h : plF T n 0 = 0) (g : ruF T n (bE6 T n) = 0) (k : spF T n (bE7 T n) ≠ 0) : bkF T n = spF T n (bE7 T n) := by unfold bkF; rw [if_neg (by omega), if_neg (by omega), if_pos k]
theorem bk_3 {T : Int → Int} {n : Int} (h : plF T n 0 = 0) (g : ruF T n (bE6 T n) = 0) (k : spF T n (bE7 T n) = 0) (t : tyA T n (tP T n (bE8 T n)) ≠ 0) : bkF T n = 8 * tP T n (bE8 T n) + 1 := by unfold bkF; rw [if_neg (by omega), if_neg (by omega), if_neg (by omega), if_pos t]
theorem bk_4 {T : Int → Int} {n : Int} (h : plF T n 0 = 0) (g : ruF T n (bE6 T n) = 0) (k : spF T n (bE7 T n) = 0) (t : tyA T n (tP T n (bE8 T n)) = 0) : bkF T n = 0 := by unfold bkF; rw [if_neg (by omega), if_neg (by omega), if_neg (by omega), if_neg (by omega)]
/-- the words of what is booked, as the reference's row has them -/
noncomputable def bkW (T : Int → Int) (n j : Int) : Int :=
  if j = 0 then vN T n (tQn T n 1 0) else if j = 1 then vN T n (tQn T n 3 0) else if j = 2 then vN T n (tQn T n 5 0) else
  if j = 3 then ruK T n (bE6 T n) else if j = 4 then ruN T n (bE6 T n) else if j = 5 then daV T n (tQn T n 1 (bE7 T n)) else
  if j = 6 then rfV (ruK T n (bE6 T n)) (ruV T n (bE6 T n)) (ruW T n (bE6 T n)) else if j = 7 then rfW (ruK T n (bE6 T n)) (ruW T n (bE6 T n)) else
  if j = 8 then spU T n (bE7 T n) else if j = 9 then spT T n (bE7 T n) else daV T n (tQn T n 1 (bE7 T n))
theorem bkW_0 {T : Int → Int} {n : Int} : bkW T n (0) = vN T n (tQn T n 1 0) := by unfold bkW; rw [if_pos (by decide)]
theorem bkW_1 {T : Int → Int} {n : Int} : bkW T n (0 + 1) = vN T n (tQn T n 3 0) := by unfold bkW; rw [if_neg (by decide), if_pos (by decide)]
theorem bkW_2 {T : Int → Int} {n : Int} : bkW T n (0 + 2) = vN T n (tQn T n 5 0) := by unfold bkW; rw [if_neg (by decide), if_neg (by decide), if_pos (by decide)]
theorem bkW_3 {T : Int → Int} {n : Int} : bkW T n (0 + 3) = ruK T n (bE6 T n) := by unfold bkW; rw [if_neg (by decide), if_neg (by decide), if_neg (by decide), if_pos (by decide)]
theorem bkW_4 {T : Int → Int} {n : Int} : bkW T n (0 + 4) = ruN T n (bE6 T n) := by unfold bkW; rw [if_neg (by decide), if_neg (by decide), if_neg (by decide), if_neg (by decide), if_pos (by decide)]
theorem bkW_5 {T : Int → Int} {n : Int} : bkW T n (0 + 5) = daV T n (tQn T n 1 (bE7 T n)) := by unfold bkW; rw [if_neg (by decide), if_neg (by decide), if_neg (by decide), if_neg (by decide), if_neg (by decide), if_pos (by decide)]
theorem bkW_6 {T : Int → Int} {n : Int} : bkW T n (0 + 6) = rfV (ruK T n (bE6 T n)) (ruV T n (bE6 T n)) (ruW T n (bE6 T n)) := by unfold bkW; rw [if_neg (by decide), if_neg (by decide), if_neg (by decide), if_neg (by decide), if_neg (by decide), if_neg (by decide), if_pos (by decide)]
theorem bkW_7 {T : Int → Int} {n : Int} : bkW T n (0 + 7) = rfW (ruK T n (bE6 T n)) (ruW T n (bE6 T n)) := by unfold bkW; rw [if_neg (by decide), if_neg (by decide), if_neg (by decide), if_neg (by decide), if_neg (by decide), if_neg (by decide), if_neg (by decide), if_pos (by decide)]
theorem bkW_8 {T : Int → Int} {n : Int} : bkW T n (0 + 8) = spU T n (bE7 T n) := by unfold bkW; rw [if_neg (by decide), if_neg (by decide), if_neg (by decide), if_neg (by decide), if_neg (by decide), if_neg (by decide), if_neg (by decide), if_neg (by decide), if_pos (by decide)]
theorem bkW_9 {T : Int → Int} {n : Int} : bkW T n (0 + 9) = spT T n (bE7 T n) := by unfold bkW; rw [if_neg (by decide), if_neg (by decide), if_neg (by decide), if_neg (by decide), if_neg (by decide), if_neg (by decide), if_neg (by decide), if_neg (by decide), if_neg (by decide), if_pos (by decide)]
theorem bkW_10 {T : Int → Int} {n : Int} : bkW T n (0 + 10) = daV T n (tQn T n 1 (bE7 T n)) := by unfold bkW; rw [if_neg (by decide), if_neg (by decide), if_neg (by decide), if_neg (by decide), if_neg (by decide), if_neg (by decide), if_neg (by decide), if_neg (by decide), if_neg (by decide), if_neg (by decide)]
theorem bk_RW {T : Int → Int} {n : Int} {f0 f : Nat → va_E} {b : Nat} (r0 : fI f0 b 0 = vN T n (tQn T n 1 0)) (r1 : fI f0 b 1 = vN T n (tQn T n 3 0)) (r2 : fI f0 b 2 = vN T n (tQn T n 5 0)) (rb : 0 ≤ vN T n (tQn T n 1 0) ∧ vN T n (tQn T n 1 0) ≤ 7) (bg : BG f0 f b (ruK T n (bE6 T n)) (ruN T n (bE6 T n)) (daV T n (tQn T n 1 (bE7 T n))) (rfV (ruK T n (bE6 T n)) (ruV T n (bE6 T n)) (ruW T n (bE6 T n))) (rfW (ruK T n (bE6 T n)) (ruW T n (bE6 T n))) (spU T n (bE7 T n)) (spT T n (bE7 T n))) (sb : SB9 (daV T n (tQn T n 1 (bE7 T n))) (spU T n (bE7 T n)) (spT T n (bE7 T n))) : RW f b (bkW T n) 0 := by
  obtain ⟨h0, h1, h2, ⟨r, hn, hr, hk⟩, h4, h5, h6⟩ := bg
  unfold RW GB
  rw [bkW_0, bkW_1, bkW_2, bkW_3, bkW_4, bkW_5, bkW_6, bkW_7, bkW_8, bkW_9, bkW_10]
  exact ⟨⟨h0.trans r0, h1.trans r1, h2.trans r2, h4, h5, h6⟩, ⟨r, hr, hk⟩, rb.1, rb.2, sb.2.2.1, sb.2.2.2, Int.le_refl _, sb.2.1⟩
theorem OL.st {L : List Nat} {f g h : Nat → va_E} {a b : Nat} (x : OL L f g a b) (y : SeT g h b) : OL L f h a b := fun z m q r => (y.1 z r).trans (x z m q r)
theorem OL.ol {L : List Nat} {f g h : Nat → va_E} {a b : Nat} (x : OL L f g a b) (y : OL L g h a b) : OL L f h a b := fun z m q r => (y z m q r).trans (x z m q r)
theorem pl_room {T : Int → Int} {n : Int} (hn : 0 ≤ n) (h : plF T n 0 = 0) : 0 ≤ vN T n (tQn T n 1 0) ∧ vN T n (tQn T n 1 0) ≤ 7 := by
  have k : nS T n (tQn T n 1 0) 0 7 = 0 := by
    by_cases c : wS T n 0 wBook = 0
    · by_cases d : nS T n (tQn T n 1 0) 0 7 = 0
      · exact d
      · have := plF_1 c d; omega
    · have := plF_0 c; omega
  have b := tQn_b (T := T) (n := n) (e := 0) (by omega) hn 1
  exact (nS_b b.1 b.2).2 k
/-! ===== the BookIndex books ===== -/
theorem RB.offA {cy : Cy} {M : List Nat} {f g : Nat → va_E} {b x : Nat} {h : Int → Int} {p : Int} (r : RB f b h p) (hg : GI cy M f) (mb : b ∈ M) (ob : Ob f b 0) (ox : Ob f x 7) (e : ∀ y ∈ M, y ≠ x → g y = f y) : RB g b h p := by
  have nb : b ≠ x := fun z => by rw [z] at ob; exact absurd (ob.uniq ox) (by decide)
  have eb := e b mb nb
  obtain ⟨⟨w, ⟨q, er, rk⟩, gb⟩, bd, tt⟩ := r
  obtain ⟨r, r1, r2, r3⟩ := (show ∃ r, fR f b 3 = some r ∧ r ∈ M ∧ Rl f r from hg.2.1 _ mb 0 3 ob)
  have rq : r = q := Option.some.inj (r1.symm.trans er)
  rw [rq] at r2
  have nq : q ≠ x := fun z => by
    have := rk.rl
    rw [z] at this
    rcases this with o | o | o | o <;> exact absurd (ox.uniq o) (by decide)
  unfold RB RW
  rw [fI_of eb, fI_of eb, fI_of eb, fI_of eb, fI_of eb, fI_of eb, fI_of eb, fI_of eb, fI_of eb, fR_of eb]
  exact ⟨⟨w, ⟨q, er, rk.of (e q r2 nq)⟩, gb⟩, bd, tt⟩
theorem SX.offA {cy : Cy} {M : List Nat} {f g : Nat → va_E} {x : Nat} {rq : Int → Nat} {h : Int → Int} {m : Int} (sx : SX f x rq h m) (hg : GI cy M f) (mx : x ∈ M) (ox : Ob f x 7) (e : ∀ y ∈ M, y ≠ x → g y = f y) (e2 : fV g x 2 = fV f x 2) : SX g x rq h m := by
  obtain ⟨sh, es, sr, m0, m1⟩ := sx
  obtain ⟨ms, o5⟩ := shelf_in hg mx ox es
  obtain ⟨a, ea, ma, oa, ha⟩ := rows_of hg ms sr.1
  obtain ⟨⟨-, -, ho, hi⟩, hs, hb⟩ := sr
  have ns : sh ≠ x := fun z => by rw [z] at o5; exact absurd (o5.uniq ox) (by decide)
  have na : a ≠ x := fun z => by rw [z] at oa; exact ox.notR oa
  have nb : ∀ i : Int, 0 ≤ i → i < 12 → rq i ≠ x := fun i i0 i1 z => by have := ho i i0 i1; rw [z] at this; exact absurd (this.uniq ox) (by decide)
  refine ⟨sh, (fR_W e2).trans es, ⟨⟨Ob_of (e sh ms ns) o5, ⟨a, (fR_of (e sh ms ns)).trans ea, fun i i0 i1 => (aR_of (e a ma na)).trans (ha i i0 i1).1⟩, fun i i0 i1 => Ob_of (e _ (ha i i0 i1).2 (nb i i0 i1)) (ho i i0 i1), hi⟩, (fI_of (e sh ms ns)).trans hs, fun i i0 i1 => (hb i i0 i1).offA hg (ha i i0 (by omega)).2 (ho i i0 (by omega)) ox e⟩, m0, m1⟩
theorem tape_in {cy : Cy} {M : List Nat} {f : Nat → va_E} {x tp : Nat} (hg : GI cy M f) (mx : x ∈ M) (ox : Ob f x 7) (e : fR f x 0 = some tp) : tp ∈ M ∧ ArI f tp cy.1 168 := by
  obtain ⟨r, r1, r2, r3⟩ := (show ∃ r, fR f x 0 = some r ∧ r ∈ M ∧ ArI f r cy.1 168 from hg.2.1 _ mx 7 0 ox)
  rw [← Option.some.inj (r1.symm.trans e)]
  exact ⟨r2, r3⟩
theorem rtq {f f7 f0 : Nat → va_E} {q tp r : Nat} {T : Int → Int} {x n : Int} (e0 : fR f q 0 = some r) (er : r = tp) (e1 : fI f q 1 = x) (ex : x = n) (n0 : 0 ≤ n) (n1 : n ≤ 160) (hT : ∀ i : Int, 0 ≤ i → i < 168 → aI f0 tp i = T i) (h1 : f tp = f7 tp) (h2 : f7 tp = f0 tp) (ne : q ≠ tp) : RT T n f q tp := by
  refine ⟨by rw [← er]; exact e0, e1.trans ex, n0, n1, ne, fun i i0 i1 => ?_⟩
  have : aI f tp i = aI f0 tp i := by unfold aI; rw [h1, h2]
  rw [this]; exact hT i i0 i1
theorem wS_u {T : Int → Int} {n e : Int} {b : List Int32} (h0 : 0 ≤ e) (h1 : e ≤ n) : 0 ≤ wS T n e b ∧ wS T n e b ≤ 8 * n + 1 := by
  have p := tP_b (T := T) h1
  rcases wS_b (T := T) (b := b) h0 h1 with h | h <;> omega
theorem nS_u {T : Int → Int} {n e lo hi : Int} (h0 : 0 ≤ e) (h1 : e ≤ n) : 0 ≤ nS T n e lo hi ∧ nS T n e lo hi ≤ 8 * n + 2 := by
  have p := tP_b (T := T) h1
  unfold nS
  repeat' split
  all_goals omega
theorem wdS_u {T : Int → Int} {n e : Int} (h0 : 0 ≤ e) (h1 : e ≤ n) : 0 ≤ wdS T n e ∧ wdS T n e ≤ 8 * n + 1 := by
  have p := tP_b (T := T) h1
  unfold wdS
  split <;> omega
theorem plF_u {T : Int → Int} {n e : Int} (h0 : 0 ≤ e) (h1 : e ≤ n) : 0 ≤ plF T n e ∧ plF T n e ≤ 8 * n + 2 := by
  have b := fun k => tQn_b (T := T) h0 h1 k
  have w0 := wS_u (T := T) (b := wBook) h0 h1
  have w2 := wS_u (T := T) (b := wAt) (b 2).1 (b 2).2
  have w4 := wS_u (T := T) (b := wFor) (b 4).1 (b 4).2
  have n1 := nS_u (T := T) (lo := 0) (hi := 7) (b 1).1 (b 1).2
  have n3 := nS_u (T := T) (lo := 0) (hi := 1439) (b 3).1 (b 3).2
  have n5 := nS_u (T := T) (lo := 1) (hi := 4320) (b 5).1 (b 5).2
  unfold plF
  repeat' split
  all_goals omega
theorem wk_u {T : Int → Int} {n : Int} (k : Nat) : ∀ e s : Int, 0 ≤ e → e ≤ n → 0 ≤ (wkF T n k e s).1 ∧ (wkF T n k e s).1 ≤ 8 * n + 2 := by
  induction k with
  | zero => intro e s h0 h1; exact ⟨Int.le_refl 0, by show (0 : Int) ≤ _; omega⟩
  | succ k ih =>
    intro e s h0 h1
    have a := tP_b (T := T) h1
    have b := tQ_b (T := T) h1
    rcases Classical.em (wdv T n e = -1) with q | q
    · rw [wk_stop (Nat.succ_pos k) q]
      show 0 ≤ (if s = 0 then 8 * tP T n e + 1 else 0) ∧ (if s = 0 then 8 * tP T n e + 1 else 0) ≤ 8 * n + 2
      split <;> omega
    · cases y : wb s (wdv T n e)
      · rw [wk_go rfl q y]; exact ih _ _ (by omega) (by omega)
      · rw [wk_dup (Nat.succ_pos k) q y]
        show 0 ≤ 8 * tP T n e + 2 ∧ 8 * tP T n e + 2 ≤ 8 * n + 2
        omega
theorem moF_u {T : Int → Int} {n e : Int} (h0 : 0 ≤ e) (h1 : e ≤ n) : 0 ≤ moF T n e ∧ moF T n e ≤ 8 * n + 2 := by
  have b := fun k => tQn_b (T := T) h0 h1 k
  have a1 := nS_u (T := T) (lo := 1) (hi := 31) (b 1).1 (b 1).2
  have a2 := nS_u (T := T) (lo := 1) (hi := 28) (b 1).1 (b 1).2
  have a3 := nS_u (T := T) (lo := 1) (hi := 5) (b 1).1 (b 1).2
  have a4 := wdS_u (T := T) (b 2).1 (b 2).2
  have a5 := wdS_u (T := T) (b 1).1 (b 1).2
  have a6 := wS_u (T := T) (b := wLast) h0 h1
  unfold moF
  repeat' split
  all_goals omega
theorem ruF_u {T : Int → Int} {n e : Int} (h0 : 0 ≤ e) (h1 : e ≤ n) : 0 ≤ ruF T n e ∧ ruF T n e ≤ 8 * n + 2 := by
  have b := fun k => tQn_b (T := T) h0 h1 k
  have a1 := wS_u (T := T) (b := wEvery) h0 h1
  have a2 := nS_u (T := T) (lo := 1) (hi := 999) (b 1).1 (b 1).2
  have a3 := wk_u (T := T) (n := n) 8 (tQn T n 3 e) 0 (b 3).1 (b 3).2
  have a4 := wS_u (T := T) (b := wMonths) (b 2).1 (b 2).2
  have a5 := moF_u (T := T) (b 3).1 (b 3).2
  unfold ruF
  repeat' split
  all_goals omega
theorem daF_u {T : Int → Int} {n e : Int} (h0 : 0 ≤ e) (h1 : e ≤ n) : 0 ≤ daF T n e ∧ daF T n e ≤ 8 * n + 2 := by
  have b := fun k => tQn_b (T := T) h0 h1 k
  have a1 := nS_u (T := T) (lo := 2000) (hi := 2099) h0 h1
  have a2 := nS_u (T := T) (lo := 1) (hi := 12) (b 1).1 (b 1).2
  have a3 := nS_u (T := T) (lo := 1) (hi := dI (vN T n e) (vN T n (tQn T n 1 e))) (b 2).1 (b 2).2
  unfold daF
  repeat' split
  all_goals omega
theorem spF_u {T : Int → Int} {n e : Int} (h0 : 0 ≤ e) (h1 : e ≤ n) : 0 ≤ spF T n e ∧ spF T n e ≤ 8 * n + 3 := by
  have b := fun k => tQn_b (T := T) h0 h1 k
  have a1 := wS_u (T := T) (b := wFrom) h0 h1
  have a2 := daF_u (T := T) (b 1).1 (b 1).2
  have a3 := nS_u (T := T) (lo := 1) (hi := 999) (b 5).1 (b 5).2
  have a4 := daF_u (T := T) (b 5).1 (b 5).2
  have p := tP_b (T := T) (b 5).2
  have q := (b 5).1
  unfold spF
  repeat' split
  all_goals omega
theorem bkF_u {T : Int → Int} {n : Int} (h0 : 0 ≤ n) : 0 ≤ bkF T n ∧ bkF T n ≤ 8 * n + 3 := by
  have a1 := plF_u (T := T) (n := n) (e := 0) (by omega) h0
  have b6 : 0 ≤ bE6 T n ∧ bE6 T n ≤ n := tQn_b (T := T) (by omega) h0 6
  have a2 := ruF_u (T := T) b6.1 b6.2
  have b7 : 0 ≤ bE7 T n ∧ bE7 T n ≤ n := ruE_b b6.1 b6.2
  have a3 := spF_u (T := T) b7.1 b7.2
  have b8 : 0 ≤ bE8 T n ∧ bE8 T n ≤ n := spE_b b7.1 b7.2
  have p := tP_b (T := T) b8.2
  unfold bkF
  repeat' split
  all_goals omega
set_option maxHeartbeats 4000000 in
set_option maxRecDepth 100000 in
theorem c_X5_init_p {Z : Zt} (zo : Zok Z) (l : Launch) (D : va_G) (cy : Cy) (L0 : List Nat) (f0 : Nat → va_E) (a0 : Nat) (a1 : Nat) (x2 : Int) (lx2 : -2147483648 ≤ x2) (ux2 : x2 ≤ 2147483647) (m_a0 : a0 ∈ L0) (o_a0 : Ob f0 a0 4) (m_a1 : a1 ∈ L0) (o_a1 : ArI f0 a1 cy.1 168) (M : List Nat) (hM : ∀ x ∈ M, x ∈ L0) (hg : GI cy M f0) (hma1 : a1 ∈ M) (h0 : 0 ≤ x2) (h1 : x2 ≤ 168) : Cv Z l yX5_init (Cond.code yX5_init cX5_init 3 none :: TB) ({ frames := 1, cells := 0, slots := 0, locals := 21 } : Room) 0 0 D (tq cy) [.ref a0, .ref a1, .int (iI x2)] L0 f0 (fun (L1 : List Nat) (f1 : Nat → va_E) => L0 = L1 ∧ GI cy M f1 ∧ Ex cy f0 f1 ∧ (∀ x ∈ L0, x ≠ a0 → f1 x = f0 x) ∧ (((0 ≤ fI f1 a0 1 ∧ fI f1 a0 1 ≤ 168) ∧ (0 ≤ fI f1 a0 3 ∧ fI f1 a0 3 ≤ 168) ∧ (0 ≤ fI f1 a0 4 ∧ fI f1 a0 4 ≤ 168) ∧ (-1 ≤ fI f1 a0 7 ∧ fI f1 a0 7 ≤ 999)) ∧ fR f1 a0 0 = some a1 ∧ fI f1 a0 1 = x2 ∧ fI f1 a0 4 = 0 ∧ K69 f1 a0 0 0 0 0 0)) := by
  refine Cv.enter (cc := cX5_init) (n := 3) rfl (plainFor_of_name (by decide)) (Nat.le_of_ble_eq_true rfl) ?_
  intro p e s m below meth c ls A hx hb hr hts hown hlocks hnm hml hK hA hAe hw hZ hl
  have hown : s.vm.findClass RX5 = some m.cls := hown
  have hl : lv_has ls 3 [(0, .ref a0), (1, .ref a1), (2, .int (iI x2))] := hl
  have hN : ZN s := (zo.2.2.2.2 _ _ _ hZ).2
  have hO : ∀ x ∈ L0, x ≠ a0 → f0 x = f0 x := fun _ _ _ => rfl
  have hE : Ex cy f0 f0 := Ex.refl cy f0
  refine lv_aload_n hx hb dX5_init_0 rfl (lv_at hl 0 rfl) ?_
  refine W.objInit hx hb hown (hts _ (List.mem_cons_of_mem _ (mr6 _ (List.mem_of_getElem? (i := 2) rfl)))) (hts _ (List.mem_cons_of_mem _ (mr1 _ (List.mem_of_getElem? (i := 12) rfl)))) (hts _ (List.mem_cons_of_mem _ (mr1 _ (List.mem_of_getElem? (i := 13) rfl)))) rfl (by rw [hml]; exact hl.1) rfl dX5_init_1 (Nat.le_of_ble_eq_true rfl) (Nat.le_of_ble_eq_true rfl) ?_
  refine W.eq (g2 := F0 m 4 ls []) rfl ?_
  refine lv_aload_n hx hb dX5_init_4 rfl (lv_at hl 0 rfl) ?_
  refine q_iconst hx hb dX5_init_5 ?_
  refine q_puti (ci := 4) (C := RX5) (T := TX5) (N := 10) hx hb hts (fun w h => List.mem_cons_of_mem _ (mfX50 w h)) hown hK hw m_a0 o_a0 rfl 2 (by decide) (hts _ (List.mem_cons_of_mem _ (mr6 _ (List.mem_of_getElem? (i := 3) rfl)))) (fun _ h => h) tyX5 tyX5_ok nmX5 rfl (ty := .int) (by decide +kernel) rfl rfl dX5_init_6 (fun H locs hw => ?_)
  have oo := o_a0
  obtain ⟨f_1, ef_1⟩ : ∃ g : Nat → va_E, g = pU f0 a0 2 (.int (iI 0)) := ⟨_, rfl⟩
  have hX : Ex cy f0 f_1 := by rw [ef_1]; exact Ex_pU oo rfl rfl (by decide)
  have hg : GI cy M f_1 := by rw [ef_1]; exact hg.putI oo rfl ⟨by decide, by decide⟩ trivial
  rw [← ef_1] at hw
  have hO : ∀ x ∈ L0, x ≠ a0 → f_1 x = f0 x := fun x9 m9 h9 => Eq.trans (by rw [ef_1]; exact pU_ne h9) (hO x9 m9 h9)
  have hE := hE.trans hX
  have o_a0 := hX.1.1 _ _ o_a0
  have o_a1 := hX.1.2.1 _ _ _ o_a1
  have t_a0_1_f_1 : fI f_1 a0 1 = fI f0 a0 1 := by rw [ef_1]; exact fI_pU (Or.inr (by decide))
  have t_a0_3_f_1 : fI f_1 a0 3 = fI f0 a0 3 := by rw [ef_1]; exact fI_pU (Or.inr (by decide))
  have t_a0_4_f_1 : fI f_1 a0 4 = fI f0 a0 4 := by rw [ef_1]; exact fI_pU (Or.inr (by decide))
  have t_a0_5_f_1 : fI f_1 a0 5 = fI f0 a0 5 := by rw [ef_1]; exact fI_pU (Or.inr (by decide))
  have t_a0_6_f_1 : fI f_1 a0 6 = fI f0 a0 6 := by rw [ef_1]; exact fI_pU (Or.inr (by decide))
  have t_a0_7_f_1 : fI f_1 a0 7 = fI f0 a0 7 := by rw [ef_1]; exact fI_pU (Or.inr (by decide))
  have t_a0_8_f_1 : fI f_1 a0 8 = fI f0 a0 8 := by rw [ef_1]; exact fI_pU (Or.inr (by decide))
  have t_a0_9_f_1 : fI f_1 a0 9 = fI f0 a0 9 := by rw [ef_1]; exact fI_pU (Or.inr (by decide))
  have vf_1 : fI f_1 a0 2 = 0 := by rw [ef_1]; exact fI_pU_self oo rfl ⟨by decide, by decide⟩
  refine lv_aload_n hx hb dX5_init_9 rfl (lv_at hl 0 rfl) ?_
  refine q_iconst hx hb dX5_init_10 ?_
  refine q_puti (ci := 4) (C := RX5) (T := TX5) (N := 10) hx hb hts (fun w h => List.mem_cons_of_mem _ (mfX50 w h)) hown hK hw m_a0 o_a0 rfl 3 (by decide) (hts _ (List.mem_cons_of_mem _ (mr6 _ (List.mem_of_getElem? (i := 4) rfl)))) (fun _ h => h) tyX5 tyX5_ok nmX5 rfl (ty := .int) (by decide +kernel) rfl rfl dX5_init_11 (fun H locs hw => ?_)
  have oo := o_a0
  obtain ⟨f_2, ef_2⟩ : ∃ g : Nat → va_E, g = pU f_1 a0 3 (.int (iI 0)) := ⟨_, rfl⟩
  have hX : Ex cy f_1 f_2 := by rw [ef_2]; exact Ex_pU oo rfl rfl (by decide)
  have hg : GI cy M f_2 := by rw [ef_2]; exact hg.putI oo rfl ⟨by decide, by decide⟩ (by show 0 ≤ 0 ∧ 0 ≤ 168; omega)
  rw [← ef_2] at hw
  have hO : ∀ x ∈ L0, x ≠ a0 → f_2 x = f0 x := fun x9 m9 h9 => Eq.trans (by rw [ef_2]; exact pU_ne h9) (hO x9 m9 h9)
  have hE := hE.trans hX
  have o_a0 := hX.1.1 _ _ o_a0
  have o_a1 := hX.1.2.1 _ _ _ o_a1
  have t_a0_1_f_2 : fI f_2 a0 1 = fI f_1 a0 1 := by rw [ef_2]; exact fI_pU (Or.inr (by decide))
  have t_a0_2_f_2 : fI f_2 a0 2 = fI f_1 a0 2 := by rw [ef_2]; exact fI_pU (Or.inr (by decide))
  have t_a0_4_f_2 : fI f_2 a0 4 = fI f_1 a0 4 := by rw [ef_2]; exact fI_pU (Or.inr (by decide))
  have t_a0_5_f_2 : fI f_2 a0 5 = fI f_1 a0 5 := by rw [ef_2]; exact fI_pU (Or.inr (by decide))
  have t_a0_6_f_2 : fI f_2 a0 6 = fI f_1 a0 6 := by rw [ef_2]; exact fI_pU (Or.inr (by decide))
  have t_a0_7_f_2 : fI f_2 a0 7 = fI f_1 a0 7 := by rw [ef_2]; exact fI_pU (Or.inr (by decide))
  have t_a0_8_f_2 : fI f_2 a0 8 = fI f_1 a0 8 := by rw [ef_2]; exact fI_pU (Or.inr (by decide))
  have t_a0_9_f_2 : fI f_2 a0 9 = fI f_1 a0 9 := by rw [ef_2]; exact fI_pU (Or.inr (by decide))
  have vf_2 : fI f_2 a0 3 = 0 := by rw [ef_2]; exact fI_pU_self oo rfl ⟨by decide, by decide⟩
  refine lv_aload_n hx hb dX5_init_14 rfl (lv_at hl 0 rfl) ?_
  refine q_iconst hx hb dX5_init_15 ?_
  refine q_puti (ci := 4) (C := RX5) (T := TX5) (N := 10) hx hb hts (fun w h => List.mem_cons_of_mem _ (mfX50 w h)) hown hK hw m_a0 o_a0 rfl 4 (by decide) (hts _ (List.mem_cons_of_mem _ (mr6 _ (List.mem_of_getElem? (i := 5) rfl)))) (fun _ h => h) tyX5 tyX5_ok nmX5 rfl (ty := .int) (by decide +kernel) rfl rfl dX5_init_16 (fun H locs hw => ?_)
  have oo := o_a0
  obtain ⟨f_3, ef_3⟩ : ∃ g : Nat → va_E, g = pU f_2 a0 4 (.int (iI 0)) := ⟨_, rfl⟩
  have hX : Ex cy f_2 f_3 := by rw [ef_3]; exact Ex_pU oo rfl rfl (by decide)
  have hg : GI cy M f_3 := by rw [ef_3]; exact hg.putI oo rfl ⟨by decide, by decide⟩ (by show 0 ≤ 0 ∧ 0 ≤ 168; omega)
  rw [← ef_3] at hw
  have hO : ∀ x ∈ L0, x ≠ a0 → f_3 x = f0 x := fun x9 m9 h9 => Eq.trans (by rw [ef_3]; exact pU_ne h9) (hO x9 m9 h9)
  have hE := hE.trans hX
  have o_a0 := hX.1.1 _ _ o_a0
  have o_a1 := hX.1.2.1 _ _ _ o_a1
  have t_a0_1_f_3 : fI f_3 a0 1 = fI f_2 a0 1 := by rw [ef_3]; exact fI_pU (Or.inr (by decide))
  have t_a0_2_f_3 : fI f_3 a0 2 = fI f_2 a0 2 := by rw [ef_3]; exact fI_pU (Or.inr (by decide))
  have t_a0_3_f_3 : fI f_3 a0 3 = fI f_2 a0 3 := by rw [ef_3]; exact fI_pU (Or.inr (by decide))
  have t_a0_5_f_3 : fI f_3 a0 5 = fI f_2 a0 5 := by rw [ef_3]; exact fI_pU (Or.inr (by decide))
  have t_a0_6_f_3 : fI f_3 a0 6 = fI f_2 a0 6 := by rw [ef_3]; exact fI_pU (Or.inr (by decide))
  have t_a0_7_f_3 : fI f_3 a0 7 = fI f_2 a0 7 := by rw [ef_3]; exact fI_pU (Or.inr (by decide))
  have t_a0_8_f_3 : fI f_3 a0 8 = fI f_2 a0 8 := by rw [ef_3]; exact fI_pU (Or.inr (by decide))
  have t_a0_9_f_3 : fI f_3 a0 9 = fI f_2 a0 9 := by rw [ef_3]; exact fI_pU (Or.inr (by decide))
  have vf_3 : fI f_3 a0 4 = 0 := by rw [ef_3]; exact fI_pU_self oo rfl ⟨by decide, by decide⟩
  refine lv_aload_n hx hb dX5_init_19 rfl (lv_at hl 0 rfl) ?_
  refine q_iconst hx hb dX5_init_20 ?_
  refine q_puti (ci := 4) (C := RX5) (T := TX5) (N := 10) hx hb hts (fun w h => List.mem_cons_of_mem _ (mfX50 w h)) hown hK hw m_a0 o_a0 rfl 5 (by decide) (hts _ (List.mem_cons_of_mem _ (mr6 _ (List.mem_of_getElem? (i := 6) rfl)))) (fun _ h => h) tyX5 tyX5_ok nmX5 rfl (ty := .int) (by decide +kernel) rfl rfl dX5_init_21 (fun H locs hw => ?_)
  have oo := o_a0
  obtain ⟨f_4, ef_4⟩ : ∃ g : Nat → va_E, g = pU f_3 a0 5 (.int (iI 0)) := ⟨_, rfl⟩
  have hX : Ex cy f_3 f_4 := by rw [ef_4]; exact Ex_pU oo rfl rfl (by decide)
  have hg : GI cy M f_4 := by rw [ef_4]; exact hg.putI oo rfl ⟨by decide, by decide⟩ trivial
  rw [← ef_4] at hw
  have hO : ∀ x ∈ L0, x ≠ a0 → f_4 x = f0 x := fun x9 m9 h9 => Eq.trans (by rw [ef_4]; exact pU_ne h9) (hO x9 m9 h9)
  have hE := hE.trans hX
  have o_a0 := hX.1.1 _ _ o_a0
  have o_a1 := hX.1.2.1 _ _ _ o_a1
  have t_a0_1_f_4 : fI f_4 a0 1 = fI f_3 a0 1 := by rw [ef_4]; exact fI_pU (Or.inr (by decide))
  have t_a0_2_f_4 : fI f_4 a0 2 = fI f_3 a0 2 := by rw [ef_4]; exact fI_pU (Or.inr (by decide))
  have t_a0_3_f_4 : fI f_4 a0 3 = fI f_3 a0 3 := by rw [ef_4]; exact fI_pU (Or.inr (by decide))
  have t_a0_4_f_4 : fI f_4 a0 4 = fI f_3 a0 4 := by rw [ef_4]; exact fI_pU (Or.inr (by decide))
  have t_a0_6_f_4 : fI f_4 a0 6 = fI f_3 a0 6 := by rw [ef_4]; exact fI_pU (Or.inr (by decide))
  have t_a0_7_f_4 : fI f_4 a0 7 = fI f_3 a0 7 := by rw [ef_4]; exact fI_pU (Or.inr (by decide))
  have t_a0_8_f_4 : fI f_4 a0 8 = fI f_3 a0 8 := by rw [ef_4]; exact fI_pU (Or.inr (by decide))
  have t_a0_9_f_4 : fI f_4 a0 9 = fI f_3 a0 9 := by rw [ef_4]; exact fI_pU (Or.inr (by decide))
  have vf_4 : fI f_4 a0 5 = 0 := by rw [ef_4]; exact fI_pU_self oo rfl ⟨by decide, by decide⟩
  refine lv_aload_n hx hb dX5_init_24 rfl (lv_at hl 0 rfl) ?_
  refine q_iconst hx hb dX5_init_25 ?_
  refine q_puti (ci := 4) (C := RX5) (T := TX5) (N := 10) hx hb hts (fun w h => List.mem_cons_of_mem _ (mfX50 w h)) hown hK hw m_a0 o_a0 rfl 6 (by decide) (hts _ (List.mem_cons_of_mem _ (mr6 _ (List.mem_of_getElem? (i := 7) rfl)))) (fun _ h => h) tyX5 tyX5_ok nmX5 rfl (ty := .int) (by decide +kernel) rfl rfl dX5_init_26 (fun H locs hw => ?_)
  have oo := o_a0
  obtain ⟨f_5, ef_5⟩ : ∃ g : Nat → va_E, g = pU f_4 a0 6 (.int (iI 0)) := ⟨_, rfl⟩
  have hX : Ex cy f_4 f_5 := by rw [ef_5]; exact Ex_pU oo rfl rfl (by decide)
  have hg : GI cy M f_5 := by rw [ef_5]; exact hg.putI oo rfl ⟨by decide, by decide⟩ trivial
  rw [← ef_5] at hw
  have hO : ∀ x ∈ L0, x ≠ a0 → f_5 x = f0 x := fun x9 m9 h9 => Eq.trans (by rw [ef_5]; exact pU_ne h9) (hO x9 m9 h9)
  have hE := hE.trans hX
  have o_a0 := hX.1.1 _ _ o_a0
  have o_a1 := hX.1.2.1 _ _ _ o_a1
  have t_a0_1_f_5 : fI f_5 a0 1 = fI f_4 a0 1 := by rw [ef_5]; exact fI_pU (Or.inr (by decide))
  have t_a0_2_f_5 : fI f_5 a0 2 = fI f_4 a0 2 := by rw [ef_5]; exact fI_pU (Or.inr (by decide))
  have t_a0_3_f_5 : fI f_5 a0 3 = fI f_4 a0 3 := by rw [ef_5]; exact fI_pU (Or.inr (by decide))
  have t_a0_4_f_5 : fI f_5 a0 4 = fI f_4 a0 4 := by rw [ef_5]; exact fI_pU (Or.inr (by decide))
  have t_a0_5_f_5 : fI f_5 a0 5 = fI f_4 a0 5 := by rw [ef_5]; exact fI_pU (Or.inr (by decide))
  have t_a0_7_f_5 : fI f_5 a0 7 = fI f_4 a0 7 := by rw [ef_5]; exact fI_pU (Or.inr (by decide))
  have t_a0_8_f_5 : fI f_5 a0 8 = fI f_4 a0 8 := by rw [ef_5]; exact fI_pU (Or.inr (by decide))
  have t_a0_9_f_5 : fI f_5 a0 9 = fI f_4 a0 9 := by rw [ef_5]; exact fI_pU (Or.inr (by decide))
  have vf_5 : fI f_5 a0 6 = 0 := by rw [ef_5]; exact fI_pU_self oo rfl ⟨by decide, by decide⟩
  refine lv_aload_n hx hb dX5_init_29 rfl (lv_at hl 0 rfl) ?_
  refine q_iconst hx hb dX5_init_30 ?_
  refine q_puti (ci := 4) (C := RX5) (T := TX5) (N := 10) hx hb hts (fun w h => List.mem_cons_of_mem _ (mfX50 w h)) hown hK hw m_a0 o_a0 rfl 7 (by decide) (hts _ (List.mem_cons_of_mem _ (mr6 _ (List.mem_of_getElem? (i := 8) rfl)))) (fun _ h => h) tyX5 tyX5_ok nmX5 rfl (ty := .int) (by decide +kernel) rfl rfl dX5_init_31 (fun H locs hw => ?_)
  have oo := o_a0
  obtain ⟨f_6, ef_6⟩ : ∃ g : Nat → va_E, g = pU f_5 a0 7 (.int (iI 0)) := ⟨_, rfl⟩
  have hX : Ex cy f_5 f_6 := by rw [ef_6]; exact Ex_pU oo rfl rfl (by decide)
  have hg : GI cy M f_6 := by rw [ef_6]; exact hg.putI oo rfl ⟨by decide, by decide⟩ (by show -1 ≤ 0 ∧ 0 ≤ 999; omega)
  rw [← ef_6] at hw
  have hO : ∀ x ∈ L0, x ≠ a0 → f_6 x = f0 x := fun x9 m9 h9 => Eq.trans (by rw [ef_6]; exact pU_ne h9) (hO x9 m9 h9)
  have hE := hE.trans hX
  have o_a0 := hX.1.1 _ _ o_a0
  have o_a1 := hX.1.2.1 _ _ _ o_a1
  have t_a0_1_f_6 : fI f_6 a0 1 = fI f_5 a0 1 := by rw [ef_6]; exact fI_pU (Or.inr (by decide))
  have t_a0_2_f_6 : fI f_6 a0 2 = fI f_5 a0 2 := by rw [ef_6]; exact fI_pU (Or.inr (by decide))
  have t_a0_3_f_6 : fI f_6 a0 3 = fI f_5 a0 3 := by rw [ef_6]; exact fI_pU (Or.inr (by decide))
  have t_a0_4_f_6 : fI f_6 a0 4 = fI f_5 a0 4 := by rw [ef_6]; exact fI_pU (Or.inr (by decide))
  have t_a0_5_f_6 : fI f_6 a0 5 = fI f_5 a0 5 := by rw [ef_6]; exact fI_pU (Or.inr (by decide))
  have t_a0_6_f_6 : fI f_6 a0 6 = fI f_5 a0 6 := by rw [ef_6]; exact fI_pU (Or.inr (by decide))
  have t_a0_8_f_6 : fI f_6 a0 8 = fI f_5 a0 8 := by rw [ef_6]; exact fI_pU (Or.inr (by decide))
  have t_a0_9_f_6 : fI f_6 a0 9 = fI f_5 a0 9 := by rw [ef_6]; exact fI_pU (Or.inr (by decide))
  have vf_6 : fI f_6 a0 7 = 0 := by rw [ef_6]; exact fI_pU_self oo rfl ⟨by decide, by decide⟩
  refine lv_aload_n hx hb dX5_init_34 rfl (lv_at hl 0 rfl) ?_
  refine q_iconst hx hb dX5_init_35 ?_
  refine q_puti (ci := 4) (C := RX5) (T := TX5) (N := 10) hx hb hts (fun w h => List.mem_cons_of_mem _ (mfX50 w h)) hown hK hw m_a0 o_a0 rfl 8 (by decide) (hts _ (List.mem_cons_of_mem _ (mr6 _ (List.mem_of_getElem? (i := 9) rfl)))) (fun _ h => h) tyX5 tyX5_ok nmX5 rfl (ty := .int) (by decide +kernel) rfl rfl dX5_init_36 (fun H locs hw => ?_)
  have oo := o_a0
  obtain ⟨f_7, ef_7⟩ : ∃ g : Nat → va_E, g = pU f_6 a0 8 (.int (iI 0)) := ⟨_, rfl⟩
  have hX : Ex cy f_6 f_7 := by rw [ef_7]; exact Ex_pU oo rfl rfl (by decide)
  have hg : GI cy M f_7 := by rw [ef_7]; exact hg.putI oo rfl ⟨by decide, by decide⟩ trivial
  rw [← ef_7] at hw
  have hO : ∀ x ∈ L0, x ≠ a0 → f_7 x = f0 x := fun x9 m9 h9 => Eq.trans (by rw [ef_7]; exact pU_ne h9) (hO x9 m9 h9)
  have hE := hE.trans hX
  have o_a0 := hX.1.1 _ _ o_a0
  have o_a1 := hX.1.2.1 _ _ _ o_a1
  have t_a0_1_f_7 : fI f_7 a0 1 = fI f_6 a0 1 := by rw [ef_7]; exact fI_pU (Or.inr (by decide))
  have t_a0_2_f_7 : fI f_7 a0 2 = fI f_6 a0 2 := by rw [ef_7]; exact fI_pU (Or.inr (by decide))
  have t_a0_3_f_7 : fI f_7 a0 3 = fI f_6 a0 3 := by rw [ef_7]; exact fI_pU (Or.inr (by decide))
  have t_a0_4_f_7 : fI f_7 a0 4 = fI f_6 a0 4 := by rw [ef_7]; exact fI_pU (Or.inr (by decide))
  have t_a0_5_f_7 : fI f_7 a0 5 = fI f_6 a0 5 := by rw [ef_7]; exact fI_pU (Or.inr (by decide))
  have t_a0_6_f_7 : fI f_7 a0 6 = fI f_6 a0 6 := by rw [ef_7]; exact fI_pU (Or.inr (by decide))
  have t_a0_7_f_7 : fI f_7 a0 7 = fI f_6 a0 7 := by rw [ef_7]; exact fI_pU (Or.inr (by decide))
  have t_a0_9_f_7 : fI f_7 a0 9 = fI f_6 a0 9 := by rw [ef_7]; exact fI_pU (Or.inr (by decide))
  have vf_7 : fI f_7 a0 8 = 0 := by rw [ef_7]; exact fI_pU_self oo rfl ⟨by decide, by decide⟩
  refine lv_aload_n hx hb dX5_init_39 rfl (lv_at hl 0 rfl) ?_
  refine q_iconst hx hb dX5_init_40 ?_
  refine q_puti (ci := 4) (C := RX5) (T := TX5) (N := 10) hx hb hts (fun w h => List.mem_cons_of_mem _ (mfX50 w h)) hown hK hw m_a0 o_a0 rfl 9 (by decide) (hts _ (List.mem_cons_of_mem _ (mr6 _ (List.mem_of_getElem? (i := 10) rfl)))) (fun _ h => h) tyX5 tyX5_ok nmX5 rfl (ty := .int) (by decide +kernel) rfl rfl dX5_init_41 (fun H locs hw => ?_)
  have oo := o_a0
  obtain ⟨f_8, ef_8⟩ : ∃ g : Nat → va_E, g = pU f_7 a0 9 (.int (iI 0)) := ⟨_, rfl⟩
  have hX : Ex cy f_7 f_8 := by rw [ef_8]; exact Ex_pU oo rfl rfl (by decide)
  have hg : GI cy M f_8 := by rw [ef_8]; exact hg.putI oo rfl ⟨by decide, by decide⟩ trivial
  rw [← ef_8] at hw
  have hO : ∀ x ∈ L0, x ≠ a0 → f_8 x = f0 x := fun x9 m9 h9 => Eq.trans (by rw [ef_8]; exact pU_ne h9) (hO x9 m9 h9)
  have hE := hE.trans hX
  have o_a0 := hX.1.1 _ _ o_a0
  have o_a1 := hX.1.2.1 _ _ _ o_a1
  have t_a0_1_f_8 : fI f_8 a0 1 = fI f_7 a0 1 := by rw [ef_8]; exact fI_pU (Or.inr (by decide))
  have t_a0_2_f_8 : fI f_8 a0 2 = fI f_7 a0 2 := by rw [ef_8]; exact fI_pU (Or.inr (by decide))
  have t_a0_3_f_8 : fI f_8 a0 3 = fI f_7 a0 3 := by rw [ef_8]; exact fI_pU (Or.inr (by decide))
  have t_a0_4_f_8 : fI f_8 a0 4 = fI f_7 a0 4 := by rw [ef_8]; exact fI_pU (Or.inr (by decide))
  have t_a0_5_f_8 : fI f_8 a0 5 = fI f_7 a0 5 := by rw [ef_8]; exact fI_pU (Or.inr (by decide))
  have t_a0_6_f_8 : fI f_8 a0 6 = fI f_7 a0 6 := by rw [ef_8]; exact fI_pU (Or.inr (by decide))
  have t_a0_7_f_8 : fI f_8 a0 7 = fI f_7 a0 7 := by rw [ef_8]; exact fI_pU (Or.inr (by decide))
  have t_a0_8_f_8 : fI f_8 a0 8 = fI f_7 a0 8 := by rw [ef_8]; exact fI_pU (Or.inr (by decide))
  have vf_8 : fI f_8 a0 9 = 0 := by rw [ef_8]; exact fI_pU_self oo rfl ⟨by decide, by decide⟩
  refine lv_aload_n hx hb dX5_init_44 rfl (lv_at hl 0 rfl) ?_
  refine lv_aload_n hx hb dX5_init_45 rfl (lv_at hl 1 rfl) ?_
  refine q_putFr (ci := 4) (C := RX5) (T := TX5) (N := 10) hx hb hts (fun w h => List.mem_cons_of_mem _ (mfX50 w h)) hown hK hw m_a0 o_a0 rfl 0 (by decide) (hts _ (List.mem_cons_of_mem _ (mr6 _ (List.mem_of_getElem? (i := 11) rfl)))) (fun _ h => h) tyX5 tyX5_ok nmX5 rfl hnm rfl (ty := tyX5 0) (by decide +kernel) rfl rfl rfl dX5_init_46 (fun H locs hw => ?_)
  have oo := o_a0
  obtain ⟨f_9, ef_9⟩ : ∃ g : Nat → va_E, g = pU f_8 a0 0 (.ref a1) := ⟨_, rfl⟩
  have hX : Ex cy f_8 f_9 := by rw [ef_9]; exact Ex_pU oo rfl rfl (by decide)
  have hg : GI cy M f_9 := by rw [ef_9]; exact hg.putR oo rfl ⟨a1, rfl, hma1, o_a1⟩
  rw [← ef_9] at hw
  have hO : ∀ x ∈ L0, x ≠ a0 → f_9 x = f0 x := fun x9 m9 h9 => Eq.trans (by rw [ef_9]; exact pU_ne h9) (hO x9 m9 h9)
  have hE := hE.trans hX
  have o_a0 := hX.1.1 _ _ o_a0
  have o_a1 := hX.1.2.1 _ _ _ o_a1
  have t_a0_1_f_9 : fI f_9 a0 1 = fI f_8 a0 1 := by rw [ef_9]; exact fI_pU (Or.inr (by decide))
  have t_a0_2_f_9 : fI f_9 a0 2 = fI f_8 a0 2 := by rw [ef_9]; exact fI_pU (Or.inr (by decide))
  have t_a0_3_f_9 : fI f_9 a0 3 = fI f_8 a0 3 := by rw [ef_9]; exact fI_pU (Or.inr (by decide))
  have t_a0_4_f_9 : fI f_9 a0 4 = fI f_8 a0 4 := by rw [ef_9]; exact fI_pU (Or.inr (by decide))
  have t_a0_5_f_9 : fI f_9 a0 5 = fI f_8 a0 5 := by rw [ef_9]; exact fI_pU (Or.inr (by decide))
  have t_a0_6_f_9 : fI f_9 a0 6 = fI f_8 a0 6 := by rw [ef_9]; exact fI_pU (Or.inr (by decide))
  have t_a0_7_f_9 : fI f_9 a0 7 = fI f_8 a0 7 := by rw [ef_9]; exact fI_pU (Or.inr (by decide))
  have t_a0_8_f_9 : fI f_9 a0 8 = fI f_8 a0 8 := by rw [ef_9]; exact fI_pU (Or.inr (by decide))
  have t_a0_9_f_9 : fI f_9 a0 9 = fI f_8 a0 9 := by rw [ef_9]; exact fI_pU (Or.inr (by decide))
  have w_0 : fR f_9 a0 0 = some a1 := by rw [ef_9]; exact fR_pU_self oo rfl
  refine lv_aload_n hx hb dX5_init_49 rfl (lv_at hl 0 rfl) ?_
  refine lv_iload_n hx hb dX5_init_50 rfl (lv_at hl 2 rfl) ?_
  refine lv_aload_n hx hb dX5_init_51 rfl (lv_at hl 1 rfl) ?_
  refine q_alenI hx hb hK hw m_a1 0 o_a1 rfl dX5_init_52 ?_
  refine q_min hx hb (hml.trans hl.1.symm) hown (hts _ (List.mem_cons_of_mem _ (mr6 _ (List.mem_of_getElem? (i := 12) rfl)))) (hts _ (List.mem_cons_of_mem _ (mr6 _ (List.mem_of_getElem? (i := 13) rfl)))) (hts _ (List.mem_cons_of_mem _ (mr6 _ (List.mem_of_getElem? (i := 14) rfl)))) (hts _ (List.mem_cons_of_mem _ (mr6 _ (List.mem_of_getElem? (i := 15) rfl)))) (Nat.le_of_ble_eq_true rfl) (Nat.le_of_ble_eq_true rfl) (Nat.le_of_ble_eq_true rfl) (Nat.le_of_ble_eq_true rfl) ⟨lx2, ux2⟩ ⟨by decide, by decide⟩ dX5_init_53 (fun x_10 lx_10 ux_10 ex_10 => ?_)
  refine q_putFi (ci := 4) (C := RX5) (T := TX5) (N := 10) hx hb hts (fun w h => List.mem_cons_of_mem _ (mfX50 w h)) hown hK hw m_a0 o_a0 rfl 1 (by decide) (hts _ (List.mem_cons_of_mem _ (mr6 _ (List.mem_of_getElem? (i := 16) rfl)))) (fun _ h => h) tyX5 tyX5_ok nmX5 rfl hnm rfl (ty := .int) (by decide +kernel) rfl rfl dX5_init_56 (fun H locs hw => ?_)
  have oo := o_a0
  obtain ⟨f_11, ef_11⟩ : ∃ g : Nat → va_E, g = pU f_9 a0 1 (.int (iI x_10)) := ⟨_, rfl⟩
  have hX : Ex cy f_9 f_11 := by rw [ef_11]; exact Ex_pU oo rfl rfl (by decide)
  have hg : GI cy M f_11 := by rw [ef_11]; exact hg.putI oo rfl ⟨lx_10, ux_10⟩ (by show 0 ≤ x_10 ∧ x_10 ≤ 168; omega)
  rw [← ef_11] at hw
  have hO : ∀ x ∈ L0, x ≠ a0 → f_11 x = f0 x := fun x9 m9 h9 => Eq.trans (by rw [ef_11]; exact pU_ne h9) (hO x9 m9 h9)
  have hE := hE.trans hX
  have o_a0 := hX.1.1 _ _ o_a0
  have o_a1 := hX.1.2.1 _ _ _ o_a1
  have w_0 : fR f_11 a0 0 = some a1 := by rw [ef_11, fR_pU (Or.inr (by decide))]; exact w_0
  have t_a0_2_f_11 : fI f_11 a0 2 = fI f_9 a0 2 := by rw [ef_11]; exact fI_pU (Or.inr (by decide))
  have t_a0_3_f_11 : fI f_11 a0 3 = fI f_9 a0 3 := by rw [ef_11]; exact fI_pU (Or.inr (by decide))
  have t_a0_4_f_11 : fI f_11 a0 4 = fI f_9 a0 4 := by rw [ef_11]; exact fI_pU (Or.inr (by decide))
  have t_a0_5_f_11 : fI f_11 a0 5 = fI f_9 a0 5 := by rw [ef_11]; exact fI_pU (Or.inr (by decide))
  have t_a0_6_f_11 : fI f_11 a0 6 = fI f_9 a0 6 := by rw [ef_11]; exact fI_pU (Or.inr (by decide))
  have t_a0_7_f_11 : fI f_11 a0 7 = fI f_9 a0 7 := by rw [ef_11]; exact fI_pU (Or.inr (by decide))
  have t_a0_8_f_11 : fI f_11 a0 8 = fI f_9 a0 8 := by rw [ef_11]; exact fI_pU (Or.inr (by decide))
  have t_a0_9_f_11 : fI f_11 a0 9 = fI f_9 a0 9 := by rw [ef_11]; exact fI_pU (Or.inr (by decide))
  have vf_11 : fI f_11 a0 1 = x_10 := by rw [ef_11]; exact fI_pU_self oo rfl ⟨lx_10, ux_10⟩
  exact q_ret_v hx hb hr hlocks hK hAe hw (Nat.le_of_ble_eq_true rfl) (Nat.le_of_ble_eq_true rfl) dX5_init_59 (by exact ⟨rfl, hg, hE, hO, ⟨⟨by omega, by omega⟩, ⟨by omega, by omega⟩, ⟨by omega, by omega⟩, ⟨by omega, by omega⟩⟩, w_0, by omega, by omega, by omega, by omega, by omega, by omega, by omega⟩)