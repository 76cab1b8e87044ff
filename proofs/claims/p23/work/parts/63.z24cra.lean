/-! ===== the whole relation: shelf, images, tape ===== -/
def AP (rq ro : Int → Nat) : Prop := ∀ i j : Int, 0 ≤ i → i < 12 → 0 ≤ j → j < 12 → rq i ≠ ro j
/-- an image: none, or a Shelf apart -/
def IR (f : Nat → va_E) (im : Nat) (j : Int) (rq ro : Int → Nat) (gi : Int → Int) (ni : Int) : Prop := (ni = -1 ∧ aR f im j = none) ∨ (0 ≤ ni ∧ ni ≤ 12 ∧ ∃ s : Nat, aR f im j = some s ∧ SR f s ro gi ni ∧ ∀ i k : Int, 0 ≤ i → i < 12 → 0 ≤ k → k < 12 → rq i ≠ ro k)
def CW (f : Nat → va_E) (x : Nat) (rq : Int → Nat) (rr : Int → Int → Nat) (im tp : Nat) (g : Int → Int) (m : Int) (G : Int → Int → Int) (N T : Int → Int) (n : Int) : Prop :=
  SX f x rq g m ∧ fR f x 3 = some im ∧ (∀ j : Int, 0 ≤ j → j ≤ 1 → IR f im j rq (rr j) (G j) (N j)) ∧ (∀ j k : Int, 0 ≤ j → j ≤ 1 → 0 ≤ k → k ≤ 1 → j ≠ k → 0 ≤ N j → 0 ≤ N k → AP (rr j) (rr k)) ∧ fR f x 0 = some tp ∧ (∀ i : Int, 0 ≤ i → i < 168 → aI f tp i = T i) ∧ fI f x 1 = n
theorem im_in {cy : Cy} {M : List Nat} {f : Nat → va_E} {x im : Nat} (hg : GI cy M f) (mx : x ∈ M) (ox : Ob f x 7) (e : fR f x 3 = some im) : im ∈ M ∧ ArR f im cy.2.2.2.2 2 := by
  obtain ⟨r, r1, r2, r3⟩ := (show ∃ r, fR f x 3 = some r ∧ r ∈ M ∧ ArR f r cy.2.2.2.2 2 from hg.2.1 _ mx 7 3 ox)
  rw [← Option.some.inj (r1.symm.trans e)]
  exact ⟨r2, r3⟩
theorem ims_in {cy : Cy} {M : List Nat} {f : Nat → va_E} {im s : Nat} {j : Int} (hg : GI cy M f) (mi : im ∈ M) (oi : ArR f im cy.2.2.2.2 2) (j0 : 0 ≤ j) (j1 : j < 2) (e : aR f im j = some s) : s ∈ M ∧ Ob f s 5 := by
  rcases hg.2.2.2 im mi j oi j0 j1 with h | ⟨b, h1, h2, h3⟩
  · rw [h] at e; cases e
  · rw [← Option.some.inj (h1.symm.trans e)]; exact ⟨h2, h3⟩
/-! ===== cells that stay ===== -/
theorem RB.offE {cy : Cy} {M : List Nat} {f g : Nat → va_E} {b : Nat} {h : Int → Int} {p : Int} {E : Nat → Prop} (r : RB f b h p) (hg : GI cy M f) (mb : b ∈ M) (ob : Ob f b 0) (nb : ¬ E b) (nr : ∀ q : Nat, Rl f q → ¬ E q) (e : ∀ y ∈ M, ¬ E y → g y = f y) : RB g b h p := by
  have eb := e b mb nb
  obtain ⟨⟨w, ⟨q, er, rk⟩, gb⟩, bd, tt⟩ := r
  obtain ⟨r, r1, r2, r3⟩ := (show ∃ r, fR f b 3 = some r ∧ r ∈ M ∧ Rl f r from hg.2.1 _ mb 0 3 ob)
  have rq : r = q := Option.some.inj (r1.symm.trans er)
  rw [rq] at r2
  unfold RB RW
  rw [fI_of eb, fI_of eb, fI_of eb, fI_of eb, fI_of eb, fI_of eb, fI_of eb, fI_of eb, fI_of eb, fR_of eb]
  exact ⟨⟨w, ⟨q, er, rk.of (e q r2 (nr q rk.rl))⟩, gb⟩, bd, tt⟩
theorem SR.offE {cy : Cy} {M : List Nat} {f g : Nat → va_E} {sh : Nat} {rq : Int → Nat} {h : Int → Int} {m : Int} {E : Nat → Prop} (sr : SR f sh rq h m) (hg : GI cy M f) (ms : sh ∈ M) (hm : m ≤ 12) (ns : ¬ E sh) (na : ∀ (a : Nat) (cA : ClassId) (l : Nat), ArR f a cA l → ¬ E a) (nb : ∀ i : Int, 0 ≤ i → i < 12 → ¬ E (rq i) ∨ (m ≤ i ∧ Ob g (rq i) 0)) (nr : ∀ q : Nat, Rl f q → ¬ E q) (e : ∀ y ∈ M, ¬ E y → g y = f y) : SR g sh rq h m := by
  obtain ⟨a, ea, ma, oa, ha⟩ := rows_of hg ms sr.1
  obtain ⟨⟨o5, -, ho, hi⟩, hs, hb⟩ := sr
  have es := e sh ms ns
  refine ⟨⟨Ob_of es o5, ⟨a, (fR_of es).trans ea, fun i i0 i1 => (aR_of (e a ma (na a _ _ oa))).trans (ha i i0 i1).1⟩, fun i i0 i1 => (nb i i0 i1).elim (fun q => Ob_of (e _ (ha i i0 i1).2 q) (ho i i0 i1)) (fun q => q.2), hi⟩, (fI_of es).trans hs, fun i i0 i1 => ?_⟩
  rcases nb i i0 (by omega) with q | q
  · exact (hb i i0 i1).offE hg (ha i i0 (by omega)).2 (ho i i0 (by omega)) q nr e
  · exact absurd i1 (by omega)
theorem CW.offE {cy : Cy} {M : List Nat} {f g : Nat → va_E} {x im tp : Nat} {rq : Int → Nat} {rr : Int → Int → Nat} {gg N T T' : Int → Int} {G : Int → Int → Int} {m n n' : Int} {E : Nat → Prop} (c : CW f x rq rr im tp gg m G N T n) (hg : GI cy M f) (mx : x ∈ M) (ox : Ob f x 7) (e : ∀ y ∈ M, ¬ E y → g y = f y) (ex : ∀ k : Nat, k ≠ 1 → fV g x k = fV f x k) (n5 : ∀ y : Nat, Ob f y 5 → ¬ E y) (na : ∀ (a : Nat) (cA : ClassId) (l : Nat), ArR f a cA l → ¬ E a) (nr : ∀ q : Nat, Rl f q → ¬ E q) (nb : ∀ i : Int, 0 ≤ i → i < 12 → ¬ E (rq i) ∨ (m ≤ i ∧ Ob g (rq i) 0)) (ni : ∀ y : Nat, Ob f y 0 → (∀ i : Int, 0 ≤ i → i < 12 → y ≠ rq i) → ¬ E y) (et : ∀ i : Int, 0 ≤ i → i < 168 → aI g tp i = T' i) (en : fI g x 1 = n') : CW g x rq rr im tp gg m G N T' n' := by
  obtain ⟨⟨sh, es, sr, m0, m1⟩, eim, ir, ap, etp, ht, hn⟩ := c
  obtain ⟨ms, o5⟩ := shelf_in hg mx ox es
  obtain ⟨mi, oi⟩ := im_in hg mx ox eim
  refine ⟨⟨sh, (fR_W (ex 2 (by decide))).trans es, sr.offE hg ms m1 (n5 _ o5) na nb nr e, m0, m1⟩, (fR_W (ex 3 (by decide))).trans eim, fun j j0 j1 => ?_, ap, (fR_W (ex 0 (by decide))).trans etp, et, en⟩
  have ea : aR g im j = aR f im j := aR_of (e im mi (na _ _ _ oi))
  rcases ir j j0 j1 with ⟨q1, q2⟩ | ⟨q1, q2, s, q3, q4, q5⟩
  · exact Or.inl ⟨q1, ea.trans q2⟩
  · have z := ims_in hg mi oi j0 (by omega) q3
    exact Or.inr ⟨q1, q2, s, ea.trans q3, q4.offE hg z.1 q2 (n5 _ z.2) na (fun i i0 i1 => Or.inl (ni _ (q4.1.2.2.1 i i0 i1) (fun k k0 k1 w => q5 k i k0 k1 i0 i1 w.symm))) nr e, q5⟩
theorem CW.off {cy : Cy} {M : List Nat} {f g : Nat → va_E} {x im tp : Nat} {rq : Int → Nat} {rr : Int → Int → Nat} {gg N T : Int → Int} {G : Int → Int → Int} {m n : Int} (c : CW f x rq rr im tp gg m G N T n) (hg : GI cy M f) (mx : x ∈ M) (ox : Ob f x 7) (e : ∀ y ∈ M, g y = f y) : CW g x rq rr im tp gg m G N T n := by
  have mt := (tape_in hg mx ox c.2.2.2.2.1).1
  refine c.offE (E := fun _ => False) hg mx ox (fun y q _ => e y q) (fun k _ => ?_) (fun _ _ h => h) (fun _ _ _ _ h => h) (fun _ _ h => h) (fun _ _ _ => Or.inl (fun h => h)) (fun _ _ _ h => h) (fun i i0 i1 => (aI_ofc (e tp mt)).trans (c.2.2.2.2.2.1 i i0 i1)) ((fI_of (e x mx)).trans c.2.2.2.2.2.2)
  unfold fV; rw [e x mx]
/-! ===== calls that change no words ===== -/
theorem CW.ef {cy : Cy} {M : List Nat} {f g : Nat → va_E} {x im tp : Nat} {rq : Int → Nat} {rr : Int → Int → Nat} {gg N T : Int → Int} {G : Int → Int → Int} {m n : Int} (c : CW f x rq rr im tp gg m G N T n) (hg : GI cy M f) (mx : x ∈ M) (ox : Ob f x 7) (z : Ef cy f g) : CW g x rq rr im tp gg m G N T n := by
  have mt := (tape_in hg mx ox c.2.2.2.2.1).2
  obtain ⟨⟨sh, es, sr, m0, m1⟩, eim, ir, ap, etp, ht, hn⟩ := c
  have ex : ∀ k : Nat, fV g x k = fV f x k := fun k => z.1.2.1 x k ox
  refine ⟨⟨sh, (fR_W (ex 2)).trans es, sr.fz z.2 z.1.1.1, m0, m1⟩, (fR_W (ex 3)).trans eim, fun j j0 j1 => ?_, ap, (fR_W (ex 0)).trans etp, fun i i0 i1 => (z.2.2.2.2 tp i mt).trans (ht i i0 i1), (fI_W (ex 1)).trans hn⟩
  rcases ir j j0 j1 with ⟨q1, q2⟩ | ⟨q1, q2, s, q3, q4, q5⟩
  · exact Or.inl ⟨q1, (z.2.2.2.1 im j).trans q2⟩
  · exact Or.inr ⟨q1, q2, s, (z.2.2.2.1 im j).trans q3, q4.fz z.2 z.1.1.1, q5⟩
/-! ===== a Shelf's size is put ===== -/
theorem rl_ob {f g : Nat → va_E} {q ci : Nat} (a : Rl f q) (b : Rl g q) (e : ∀ j : Nat, fV g q j = fV f q j) (o : Ob f q ci) : Ob g q ci := by
  have key : ∀ cj : Nat, Ob g q cj → sg ci = sg cj := by
    intro cj h
    obtain ⟨fs, h1, h2⟩ := o
    obtain ⟨gs, g1, g2⟩ := h
    have z : gs = fs := by
      apply List.ext_getElem?
      intro k
      have w := e k
      unfold fV at w
      rw [h1, g1] at w
      exact w
    rw [← h2, ← g2, z]
  have c : ci = 1 ∨ ci = 2 ∨ ci = 3 ∨ ci = 6 := by
    rcases a with h | h | h | h
    · exact Or.inl (o.uniq h)
    · exact Or.inr (Or.inl (o.uniq h))
    · exact Or.inr (Or.inr (Or.inl (o.uniq h)))
    · exact Or.inr (Or.inr (Or.inr (o.uniq h)))
  rcases c with c | c | c | c <;> subst c <;> rcases b with h | h | h | h <;> first | exact h | exact absurd (key _ h) (by decide) | fail "none"
theorem RB.rk {cy : Cy} {M : List Nat} {f g : Nat → va_E} {sh b : Nat} {h : Int → Int} {p : Int} (r : RB f b h p) (k : RK f g sh) (hg : GI cy M g) (mb : b ∈ M) (ob : Ob g b 0) (os : Ob g sh 5) : RB g b h p := by
  have nb : b ≠ sh := fun z => by rw [z] at ob; exact absurd (ob.uniq os) (by decide)
  have e : ∀ j : Nat, fV g b j = fV f b j := fun j => k.1 b j (Or.inl nb)
  obtain ⟨⟨w, ⟨q, er, rk⟩, gb⟩, bd, tt⟩ := r
  obtain ⟨r, r1, r2, r3⟩ := (show ∃ r, fR g b 3 = some r ∧ r ∈ M ∧ Rl g r from hg.2.1 _ mb 0 3 ob)
  have rq : r = q := Option.some.inj (r1.symm.trans ((fR_W (e 3)).trans er))
  rw [rq] at r3
  have nq : q ≠ sh := nrl5 os q r3
  have eq : ∀ j : Nat, fV g q j = fV f q j := fun j => k.1 q j (Or.inl nq)
  unfold RB RW
  rw [fI_W (e 0), fI_W (e 1), fI_W (e 2), fI_W (e 4), fI_W (e 5), fI_W (e 6), fI_W (e 7), fI_W (e 8), fI_W (e 9), fR_W (e 3)]
  exact ⟨⟨w, ⟨q, er, rk.keep eq (fun ci o => rl_ob rk.rl r3 eq o)⟩, gb⟩, bd, tt⟩
theorem SR.rk {cy : Cy} {M : List Nat} {f g : Nat → va_E} {sh s : Nat} {ro : Int → Nat} {h : Int → Int} {m : Int} (sr : SR f s ro h m) (k : RK f g sh) (hg : GI cy M g) (hm : m ≤ 12) (mr : ∀ i : Int, 0 ≤ i → i < 12 → ro i ∈ M) (ne : s ≠ sh) (os : Ob g s 5) (ob : ∀ i : Int, 0 ≤ i → i < 12 → Ob g (ro i) 0) (oh : Ob g sh 5) : SR g s ro h m := by
  obtain ⟨⟨o5, ⟨a, ea, ha⟩, ho, hi⟩, hs, hb⟩ := sr
  exact ⟨⟨os, ⟨a, (fR_W (k.1 s 0 (Or.inl ne))).trans ea, fun i i0 i1 => (k.2.1 a i).trans (ha i i0 i1)⟩, ob, hi⟩, (fI_W (k.1 s 1 (Or.inl ne))).trans hs, fun i i0 i1 => (hb i i0 i1).rk k hg (mr i i0 (by omega)) (ob i i0 (by omega)) oh⟩
/-! ===== cancel ===== -/
def pmv (c n i : Int) : Int := if i < c then i else if i < n then i + 1 else if i = n then c else i
theorem rmv_pm {rq : Int → Nat} {c n i : Int} : rmv rq c n i = rq (pmv c n i) := by
  unfold rmv pmv
  by_cases a : i < c
  · rw [if_pos a, if_pos a]
  · rw [if_neg a, if_neg a]
    by_cases b : i < n
    · rw [if_pos b, if_pos b]
    · rw [if_neg b, if_neg b]
      by_cases d : i = n
      · rw [if_pos d, if_pos d]
      · rw [if_neg d, if_neg d]
theorem pmv_r {c n i : Int} (c0 : 0 ≤ c) (c1 : c ≤ n) (n1 : n < 12) (i0 : 0 ≤ i) (i1 : i < 12) : 0 ≤ pmv c n i ∧ pmv c n i < 12 := by
  unfold pmv
  by_cases a : i < c
  · rw [if_pos a]; omega
  · rw [if_neg a]
    by_cases b : i < n
    · rw [if_pos b]; omega
    · rw [if_neg b]
      by_cases d : i = n
      · rw [if_pos d]; omega
      · rw [if_neg d]; omega
theorem pmv_i {c n i j : Int} (c1 : c ≤ n) (h : pmv c n i = pmv c n j) : i = j := by
  unfold pmv at h
  repeat' split at h
  all_goals omega
theorem SR.fo2 {P : Nat → Prop} {cy : Cy} {f g : Nat → va_E} {sh : Nat} {rq : Int → Nat} {h : Int → Int} {m : Int} (r : SR f sh rq h m) (z : Fo P cy f g) (fr : ∀ (a : Nat) (i : Int), fR f sh 0 = some a → aR g a i = aR f a i) (ns : ¬ P sh) (nb : ∀ i : Int, 0 ≤ i → i < 12 → ¬ P (rq i)) (hm : m ≤ 12) (nr : ∀ q : Nat, Rl f q → ¬ P q) : SR g sh rq h m := by
  obtain ⟨⟨o5, ⟨a, ea, ha⟩, ho, hi⟩, hs, hb⟩ := r
  refine ⟨⟨z.1.1 _ _ o5, ⟨a, (fR_W (z.2.2.1 _ _ _ ns o5 (by decide))).trans ea, fun i i0 i1 => (fr _ _ ea).trans (ha i i0 i1)⟩, fun i i0 i1 => z.1.1 _ _ (ho i i0 i1), hi⟩, (fI_W (z.2.2.1 _ _ _ ns o5 (by decide))).trans hs, fun i i0 i1 => (hb i i0 i1).fo z (nb i i0 (by omega)) nr⟩
theorem CW.cancel {cy : Cy} {M : List Nat} {f0 f1 : Nat → va_E} {x im tp : Nat} {rq : Int → Nat} {rr : Int → Int → Nat} {g g' N T : Int → Int} {G : Int → Int → Int} {m n c : Int} (cw : CW f0 x rq rr im tp g m G N T n) (hg : GI cy M f0) (mx : x ∈ M) (ox : Ob f0 x 7) (hx : Ex cy f0 f1) (c0 : 0 ≤ c) (c1 : c < m) (post : ∃ sh ar : Nat, fR f0 x 2 = some sh ∧ fR f0 sh 0 = some ar ∧ RM f0 f1 sh ar ∧ RR f1 ar (rmv rq c (m - 1)) ∧ fI f1 sh 1 = m - 1) (g1 : ∀ y : Int, 0 ≤ y → y < 44 * c → g' y = g y) (g2 : ∀ y : Int, 44 * c ≤ y → y < 44 * (m - 1) → g' y = g (y + 44)) : CW f1 x (rmv rq c (m - 1)) rr im tp g' (m - 1) G N T n := by
  obtain ⟨sx, eim, ir, ap, etp, ht, hn⟩ := cw
  obtain ⟨sh, ar, e1, e2, rm, rw1, e3⟩ := post
  obtain ⟨sr, sm, m0, m1⟩ := sx.at e1
  obtain ⟨ms, o5⟩ := shelf_in hg mx ox e1
  obtain ⟨mi, oi⟩ := im_in hg mx ox eim
  have fo : Fo (fun y => y = sh) cy f0 f1 := ⟨hx.1, fun y k q _ _ _ => rm.1 y k (Or.inl q), fun y ci k q _ _ => rm.1 y k (Or.inl q), fun y j _ => rm.2.2 y j⟩
  have nr := nrl5 o5
  have pr : ∀ i : Int, 0 ≤ i → i < 12 → 0 ≤ pmv c (m - 1) i ∧ pmv c (m - 1) i < 12 := fun i i0 i1 => pmv_r c0 (by omega) (by omega) i0 i1
  have ex : ∀ k : Nat, fV f1 x k = fV f0 x k := fun k => hx.2.1 x k ox
  have sf := sr.1
  obtain ⟨⟨-, ⟨a, ea, ha⟩, ho, hi⟩, hs, hb⟩ := sr
  have ra : a = ar := Option.some.inj (ea.symm.trans e2)
  rw [ra] at ha
  have nb : ∀ i : Int, 0 ≤ i → i < 12 → ¬ (rq i = sh) := fun i i0 i1 q => by have := ho i i0 i1; rw [q] at this; exact absurd (o5.uniq this) (by decide)
  refine ⟨⟨sh, (fR_W (ex 2)).trans e1, ⟨⟨hx.1.1 _ _ o5, ⟨ar, (fR_W (rm.1 sh 0 (Or.inr (by decide)))).trans e2, rw1⟩, fun i i0 i1 => ?_, fun i j i0 i1 j0 j1 q => ?_⟩, e3, fun i i0 i1 => ?_⟩, by omega, by omega⟩, (fR_W (ex 3)).trans eim, fun j j0 j1 => ?_, ap, (fR_W (ex 0)).trans etp, fun i i0 i1 => (rm.2.2 tp i).trans (ht i i0 i1), (fI_W (ex 1)).trans hn⟩
  · rw [rmv_pm]
    exact hx.1.1 _ _ (ho _ (pr i i0 i1).1 (pr i i0 i1).2)
  · rw [rmv_pm, rmv_pm] at q
    exact pmv_i (show c ≤ m - 1 by omega) (hi _ _ (pr i i0 i1).1 (pr i i0 i1).2 (pr j j0 j1).1 (pr j j0 j1).2 q)
  · unfold rmv
    by_cases q : i < c
    · rw [if_pos q]
      refine ((hb i i0 (by omega)).fo fo (nb i i0 (by omega)) nr).cg (fun j j0 j1 => ?_)
      exact g1 _ (by omega) (by omega)
    · rw [if_neg q, if_pos i1]
      refine ((hb (i + 1) (by omega) (by omega)).fo fo (nb (i + 1) (by omega) (by omega)) nr).cg (fun j j0 j1 => ?_)
      rw [g2 (44 * i + j) (by omega) (by omega), show 44 * i + j + 44 = 44 * (i + 1) + j by omega]
  · have ea : aR f1 im j = aR f0 im j := hx.2.2 im j oi
    rcases ir j j0 j1 with ⟨q1, q2⟩ | ⟨q1, q2, s, q3, q4, q5⟩
    · exact Or.inl ⟨q1, ea.trans q2⟩
    · refine Or.inr ⟨q1, q2, s, ea.trans q3, q4.fo2 fo (fun b i eb => rm.2.1 b i (fun z => ?_)) (sf_ne sf q4.1 q5) (fun i i0 i1 q => ?_) q2 nr, fun i k i0 i1 k0 k1 => ?_⟩
      · obtain ⟨-, ⟨b', eb', hb'⟩, -, -⟩ := q4.1
        have zb : b' = ar := (Option.some.inj (eb'.symm.trans eb)).trans z
        rw [zb] at hb'
        exact q5 0 0 (by decide) (by decide) (by decide) (by decide) (Option.some.inj ((ha 0 (by decide) (by decide)).symm.trans (hb' 0 (by decide) (by decide))))
      · have := q4.1.2.2.1 i i0 i1
        rw [q] at this
        exact absurd (o5.uniq this) (by decide)
      · rw [rmv_pm]
        exact q5 _ k (pr i i0 i1).1 (pr i i0 i1).2 k0 k1
/-! ===== split ===== -/
theorem CW.split {cy : Cy} {M : List Nat} {f0 f1 : Nat → va_E} {x im tp : Nat} {rq : Int → Nat} {rr : Int → Int → Nat} {g g' N T : Int → Int} {G : Int → Int → Int} {m n c d : Int} (cw : CW f0 x rq rr im tp g m G N T n) (hg : GI cy M f0) (hg1 : GI cy M f1) (mx : x ∈ M) (ox : Ob f0 x 7) (hx : Ex cy f0 f1) (c0 : 0 ≤ c) (c1 : c < m) (m2 : m < 12) (post : ∃ (sh : Nat) (f9 : Nat → va_E), fR f0 x 2 = some sh ∧ Fo (fun y => y = rq c ∨ y = rq m) cy f0 f9 ∧ Fr0 f0 f9 ∧ RB f9 (rq c) (HWd g (44 * c) d) (44 * c) ∧ RB f9 (rq m) (TWd g (44 * c) d) (44 * c) ∧ RK f9 f1 sh ∧ fI f1 sh 1 = m + 1) (g1 : ∀ y : Int, 0 ≤ y → (y < 44 * m ∧ (y < 44 * c ∨ 44 * c + 43 < y)) → g' y = g y) (g2 : ∀ j : Int, 0 ≤ j → j ≤ 10 → g' (44 * c + j) = HWd g (44 * c) d (44 * c + j)) (g3 : ∀ j : Int, 0 ≤ j → j ≤ 10 → g' (44 * m + j) = TWd g (44 * c) d (44 * c + j)) : CW f1 x rq rr im tp g' (m + 1) G N T n := by
  have mt := (tape_in hg mx ox cw.2.2.2.2.1).2
  obtain ⟨sx, eim, ir, ap, etp, ht, hn⟩ := cw
  obtain ⟨sh, f9, e1, fo, fr, ba, bb, rk, e3⟩ := post
  obtain ⟨sr, sm, m0, m1⟩ := sx.at e1
  obtain ⟨ms, o5⟩ := shelf_in hg mx ox e1
  obtain ⟨mi, oi⟩ := im_in hg mx ox eim
  have ex : ∀ k : Nat, fV f1 x k = fV f0 x k := fun k => hx.2.1 x k ox
  have mr := rows_in hg mx ox e1 sr
  have sf := sr.1
  obtain ⟨⟨-, ⟨a, ea, ha⟩, ho, hi⟩, hs, hb⟩ := sr
  have ho1 : ∀ i : Int, 0 ≤ i → i < 12 → Ob f1 (rq i) 0 := fun i i0 i1 => hx.1.1 _ _ (ho i i0 i1)
  have o51 := hx.1.1 _ _ o5
  have nr : ∀ q : Nat, Rl f0 q → ¬ (q = rq c ∨ q = rq m) := fun q h z => z.elim (nrl (ho c c0 (by omega)) q h) (nrl (ho m m0 m2) q h)
  have ns : ∀ s : Nat, Ob f0 s 5 → ¬ (s = rq c ∨ s = rq m) := fun s o z => z.elim (fun z => by have := ho c c0 (by omega); rw [← z] at this; exact absurd (o.uniq this) (by decide)) (fun z => by have := ho m m0 m2; rw [← z] at this; exact absurd (o.uniq this) (by decide))
  refine ⟨⟨sh, (fR_W (ex 2)).trans e1, ⟨⟨o51, ⟨a, (fR_W (rk.1 sh 0 (Or.inr (by decide)))).trans ((fR_W (fo.2.2.1 sh 5 0 (ns sh o5) o5 (by decide))).trans ea), fun i i0 i1 => (rk.2.1 a i).trans ((fr a i).trans (ha i i0 i1))⟩, ho1, hi⟩, e3, fun i i0 i1 => ?_⟩, by omega, by omega⟩, (fR_W (ex 3)).trans eim, fun j j0 j1 => ?_, ap, (fR_W (ex 0)).trans etp, fun i i0 i1 => (rk.2.2 tp i).trans ((fo.2.2.2 tp i mt).trans (ht i i0 i1)), (fI_W (ex 1)).trans hn⟩
  · by_cases q : i = c
    · subst q
      exact (ba.rk rk hg1 (mr i i0 (by omega)) (ho1 i i0 (by omega)) o51).cg g2
    · by_cases q2 : i = m
      · subst q2
        exact (bb.rk rk hg1 (mr i i0 m2) (ho1 i i0 m2) o51).cg g3
      · have b1 := (hb i i0 (by omega)).fo fo (fun z => z.elim (fun z => q (hi i c i0 (by omega) c0 (by omega) z)) (fun z => q2 (hi i m i0 (by omega) m0 m2 z))) nr
        refine (b1.rk rk hg1 (mr i i0 (by omega)) (ho1 i i0 (by omega)) o51).cg (fun j j0 j1 => ?_)
        exact g1 _ (by omega) (by omega)
  · have ea : aR f1 im j = aR f0 im j := hx.2.2 im j oi
    rcases ir j j0 j1 with ⟨q1, q2⟩ | ⟨q1, q2, s, q3, q4, q5⟩
    · exact Or.inl ⟨q1, ea.trans q2⟩
    · have z := ims_in hg mi oi j0 (by omega) q3
      obtain ⟨_, -, -, -, hrow⟩ := rows_of hg z.1 q4.1
      have s9 := q4.fo fo fr (ns s z.2) (fun i i0 i1 w => w.elim (fun w => q5 c i c0 (by omega) i0 i1 w.symm) (fun w => q5 m i m0 m2 i0 i1 w.symm)) q2 nr
      exact Or.inr ⟨q1, q2, s, ea.trans q3, s9.rk rk hg1 q2 (fun i i0 i1 => (hrow i i0 i1).2) (sf_ne sf q4.1 q5) (hx.1.1 _ _ z.2) (fun i i0 i1 => hx.1.1 _ _ (q4.1.2.2.1 i i0 i1)) o51, q5⟩
/-! ===== book ===== -/
theorem CW.booked {cy : Cy} {M M1 : List Nat} {f0 f1 : Nat → va_E} {x im tp : Nat} {rq : Int → Nat} {rr : Int → Int → Nat} {g g' N T wv : Int → Int} {G : Int → Int → Int} {m n : Int} (cw : CW f0 x rq rr im tp g m G N T n) (hg : GI cy M f0) (hsb : ∀ y ∈ M, y ∈ M1) (hg1 : GI cy M1 f1) (mx : x ∈ M) (ox : Ob f0 x 7) (al : Al cy M f0 f1) (m2 : m < 12) (post : ∃ (sh : Nat) (f9 : Nat → va_E), fR f0 x 2 = some sh ∧ ((∀ y ∈ M, y ≠ x → y ≠ rq m → f9 y = f0 y) ∧ (∀ k : Nat, k ≠ 1 → fV f9 x k = fV f0 x k) ∧ fI f9 x 1 = 0) ∧ RB f9 (rq m) wv 0 ∧ RK f9 f1 sh ∧ fI f1 sh 1 = m + 1) (g1 : ∀ y : Int, 0 ≤ y → y < 44 * m → g' y = g y) (g2 : ∀ j : Int, 0 ≤ j → j ≤ 10 → g' (44 * m + j) = wv j) : CW f1 x rq rr im tp g' (m + 1) G N T 0 := by
  obtain ⟨mt, ot⟩ := tape_in hg mx ox cw.2.2.2.2.1
  obtain ⟨sx, eim, ir, ap, etp, ht, hn⟩ := cw
  obtain ⟨sh, f9, e1, ⟨en, ef, ez⟩, bb, rk, e3⟩ := post
  obtain ⟨sr, sm, m0, m1⟩ := sx.at e1
  obtain ⟨ms, o5⟩ := shelf_in hg mx ox e1
  obtain ⟨mi, oi⟩ := im_in hg mx ox eim
  have mr := rows_in hg mx ox e1 sr
  have sf := sr.1
  obtain ⟨a, ea, ma, oa, ha⟩ := rows_of hg ms sf
  obtain ⟨⟨-, -, ho, hi⟩, hs, hb⟩ := sr
  have ho1 : ∀ i : Int, 0 ≤ i → i < 12 → Ob f1 (rq i) 0 := fun i i0 i1 => al.1 _ (mr i i0 i1) _ (ho i i0 i1)
  have o51 := al.1 _ ms _ o5
  have E5 : ∀ y : Nat, Ob f0 y 5 → ¬ (y = x ∨ y = rq m) := fun y o z => z.elim (fun z => by rw [z] at o; exact absurd (ox.uniq o) (by decide)) (fun z => by have := ho m m0 m2; rw [← z] at this; exact absurd (o.uniq this) (by decide))
  have EA : ∀ (b : Nat) (cA : ClassId) (l : Nat), ArR f0 b cA l → ¬ (b = x ∨ b = rq m) := fun b cA l o z => z.elim (fun z => by rw [z] at o; exact ox.notR o) (fun z => by rw [z] at o; exact (ho m m0 m2).notR o)
  have ER : ∀ q : Nat, Rl f0 q → ¬ (q = x ∨ q = rq m) := fun q h z => z.elim (fun z => by rw [z] at h; rcases h with h | h | h | h <;> exact absurd (ox.uniq h) (by decide)) (nrl (ho m m0 m2) q h)
  have E0 : ∀ y : Nat, Ob f0 y 0 → y ≠ rq m → ¬ (y = x ∨ y = rq m) := fun y o w z => z.elim (fun z => by rw [z] at o; exact absurd (ox.uniq o) (by decide)) w
  have ee : ∀ y ∈ M, ¬ (y = x ∨ y = rq m) → f9 y = f0 y := fun y q z => en y q (fun w => z (Or.inl w)) (fun w => z (Or.inr w))
  have nx : x ≠ sh := fun z => by rw [z] at ox; exact absurd (ox.uniq o5) (by decide)
  have ex : ∀ k : Nat, k ≠ 1 → fV f1 x k = fV f0 x k := fun k q => (rk.1 x k (Or.inl nx)).trans (ef k q)
  have es := ee sh ms (E5 sh o5)
  have ntp : ¬ (tp = x ∨ tp = rq m) := fun z => z.elim (fun z => by rw [z] at ot; exact ox.notI ot) (fun z => by rw [z] at ot; exact (ho m m0 m2).notI ot)
  refine ⟨⟨sh, (fR_W (ex 2 (by decide))).trans e1, ⟨⟨o51, ⟨a, (fR_W (rk.1 sh 0 (Or.inr (by decide)))).trans ((fR_of es).trans ea), fun i i0 i1 => (rk.2.1 a i).trans ((aR_of (ee a ma (EA _ _ _ oa))).trans (ha i i0 i1).1)⟩, ho1, hi⟩, e3, fun i i0 i1 => ?_⟩, by omega, by omega⟩, (fR_W (ex 3 (by decide))).trans eim, fun j j0 j1 => ?_, ap, (fR_W (ex 0 (by decide))).trans etp, fun i i0 i1 => (rk.2.2 tp i).trans ((aI_ofc (ee tp mt ntp)).trans (ht i i0 i1)), (fI_W (rk.1 x 1 (Or.inl nx))).trans ez⟩
  · by_cases q : i = m
    · subst q
      refine (bb.rk rk hg1 (hsb _ (mr i i0 m2)) (ho1 i i0 m2) o51).cg (fun j j0 j1 => ?_)
      rw [g2 j j0 j1, Int.zero_add]
    · have b1 := (hb i i0 (by omega)).offE (g := f9) hg (mr i i0 (by omega)) (ho i i0 (by omega)) (E0 _ (ho i i0 (by omega)) (fun z => q (hi i m i0 (by omega) m0 m2 z))) ER ee
      refine (b1.rk rk hg1 (hsb _ (mr i i0 (by omega))) (ho1 i i0 (by omega)) o51).cg (fun j j0 j1 => ?_)
      exact g1 _ (by omega) (by omega)
  · have ea : aR f1 im j = aR f0 im j := (rk.2.1 im j).trans (aR_of (ee im mi (EA _ _ _ oi)))
    rcases ir j j0 j1 with ⟨q1, q2⟩ | ⟨q1, q2, s, q3, q4, q5⟩
    · exact Or.inl ⟨q1, ea.trans q2⟩
    · have z := ims_in hg mi oi j0 (by omega) q3
      obtain ⟨_, -, -, -, hrow⟩ := rows_of hg z.1 q4.1
      have s9 := q4.offE (g := f9) hg z.1 q2 (E5 s z.2) EA (fun i i0 i1 => Or.inl (E0 _ (q4.1.2.2.1 i i0 i1) (fun w => q5 m i m0 m2 i0 i1 w.symm))) ER ee
      exact Or.inr ⟨q1, q2, s, ea.trans q3, s9.rk rk hg1 q2 (fun i i0 i1 => hsb _ (hrow i i0 i1).2) (sf_ne sf q4.1 q5) (al.1 _ z.1 _ z.2) (fun i i0 i1 => al.1 _ (hrow i i0 i1).2 _ (q4.1.2.2.1 i i0 i1)) o51, q5⟩
