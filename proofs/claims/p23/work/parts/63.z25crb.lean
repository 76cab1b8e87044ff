theorem ArI.noR {f : Nat → va_E} {a n k : Nat} {cA cB : ClassId} (h : ArI f a cA n) : ¬ ArR f a cB k := by
  intro g
  obtain ⟨u, hu⟩ := h
  obtain ⟨v, hv⟩ := g
  rw [hu] at hv
  cases hv
/-! ===== a text that is not booked; feed; end ===== -/
theorem CW.unbooked {cy : Cy} {M : List Nat} {f0 f1 : Nat → va_E} {x im tp : Nat} {rq : Int → Nat} {rr : Int → Int → Nat} {g N T : Int → Int} {G : Int → Int → Int} {m n : Int} (cw : CW f0 x rq rr im tp g m G N T n) (hg : GI cy M f0) (mx : x ∈ M) (ox : Ob f0 x 7) (al : Al cy M f0 f1) (m2 : m < 12) (en : ∀ y ∈ M, y ≠ x → y ≠ rq m → f1 y = f0 y) (ef : ∀ k : Nat, k ≠ 1 → fV f1 x k = fV f0 x k) (ez : fI f1 x 1 = 0) : CW f1 x rq rr im tp g m G N T 0 := by
  obtain ⟨mt, ot⟩ := tape_in hg mx ox cw.2.2.2.2.1
  obtain ⟨sh, e1, sr, m0, m1⟩ := cw.1
  have mr := rows_in hg mx ox e1 sr
  obtain ⟨-, -, ho, hi⟩ := sr.1
  refine cw.offE (E := fun y => y = x ∨ y = rq m) hg mx ox (fun y q z => en y q (fun w => z (Or.inl w)) (fun w => z (Or.inr w))) ef ?_ ?_ ?_ ?_ ?_ (fun i i0 i1 => (aI_ofc (en tp mt ?_ ?_)).trans (cw.2.2.2.2.2.1 i i0 i1)) ez
  · exact fun y o z => z.elim (fun z => by rw [z] at o; exact absurd (ox.uniq o) (by decide)) (fun z => by have := ho m m0 m2; rw [← z] at this; exact absurd (o.uniq this) (by decide))
  · exact fun b cA l o z => z.elim (fun z => by rw [z] at o; exact ox.notR o) (fun z => by rw [z] at o; exact (ho m m0 m2).notR o)
  · exact fun q h z => z.elim (fun z => by rw [z] at h; rcases h with h | h | h | h <;> exact absurd (ox.uniq h) (by decide)) (nrl (ho m m0 m2) q h)
  · intro i i0 i1
    by_cases q : i = m
    · exact Or.inr ⟨by omega, al.1 _ (mr i i0 i1) _ (ho i i0 i1)⟩
    · exact Or.inl (fun z => z.elim (fun z => by have := ho i i0 i1; rw [z] at this; exact absurd (ox.uniq this) (by decide)) (fun z => q (hi i m i0 i1 m0 m2 z)))
  · exact fun y o w z => z.elim (fun z => by rw [z] at o; exact absurd (ox.uniq o) (by decide)) (w m m0 m2)
  · exact fun z => by rw [z] at ot; exact ox.notI ot
  · exact fun z => by rw [z] at ot; exact (ho m m0 m2).notI ot
theorem CW.own {cy : Cy} {M : List Nat} {f0 f1 : Nat → va_E} {x im tp : Nat} {rq : Int → Nat} {rr : Int → Int → Nat} {g N T : Int → Int} {G : Int → Int → Int} {m n n' : Int} (cw : CW f0 x rq rr im tp g m G N T n) (hg : GI cy M f0) (mx : x ∈ M) (ox : Ob f0 x 7) (en : ∀ y ∈ M, y ≠ x → f1 y = f0 y) (ef : ∀ k : Nat, k ≠ 1 → fV f1 x k = fV f0 x k) (ez : fI f1 x 1 = n') : CW f1 x rq rr im tp g m G N T n' := by
  obtain ⟨mt, ot⟩ := tape_in hg mx ox cw.2.2.2.2.1
  obtain ⟨sh, e1, sr, m0, m1⟩ := cw.1
  obtain ⟨-, -, ho, hi⟩ := sr.1
  refine cw.offE (E := fun y => y = x) hg mx ox (fun y q z => en y q z) ef ?_ ?_ ?_ ?_ ?_ (fun i i0 i1 => (aI_ofc (en tp mt ?_)).trans (cw.2.2.2.2.2.1 i i0 i1)) ez
  · exact fun y o z => by rw [z] at o; exact absurd (ox.uniq o) (by decide)
  · exact fun b cA l o z => by rw [z] at o; exact ox.notR o
  · exact fun q h z => by rw [z] at h; rcases h with h | h | h | h <;> exact absurd (ox.uniq h) (by decide)
  · exact fun i i0 i1 => Or.inl (fun z => by have := ho i i0 i1; rw [z] at this; exact absurd (ox.uniq this) (by decide))
  · exact fun y o w z => by rw [z] at o; exact absurd (ox.uniq o) (by decide)
  · exact fun z => by rw [z] at ot; exact ox.notI ot
theorem CW.fed {cy : Cy} {M : List Nat} {f0 f1 : Nat → va_E} {x im tp : Nat} {rq : Int → Nat} {rr : Int → Int → Nat} {g N T T' : Int → Int} {G : Int → Int → Int} {m n n' : Int} (cw : CW f0 x rq rr im tp g m G N T n) (hg : GI cy M f0) (mx : x ∈ M) (ox : Ob f0 x 7) (ft : FT f0 f1 x tp) (et : ∀ i : Int, 0 ≤ i → i < 168 → aI f1 tp i = T' i) (ez : fI f1 x 1 = n') : CW f1 x rq rr im tp g m G N T' n' := by
  obtain ⟨mt, ot⟩ := tape_in hg mx ox cw.2.2.2.2.1
  obtain ⟨sh, e1, sr, m0, m1⟩ := cw.1
  obtain ⟨-, -, ho, hi⟩ := sr.1
  refine cw.offE (E := fun y => y = x ∨ y = tp) hg mx ox (fun y q z => ft.1 y (fun w => z (Or.inl w)) (fun w => z (Or.inr w))) ft.2 ?_ ?_ ?_ ?_ ?_ et ez
  · exact fun y o z => z.elim (fun z => by rw [z] at o; exact absurd (ox.uniq o) (by decide)) (fun z => by rw [z] at o; exact o.notI ot)
  · intro b cA l o z
    rcases z with z | z
    · rw [z] at o; exact ox.notR o
    · rw [z] at o
      obtain ⟨u, hu⟩ := o
      obtain ⟨v, hv⟩ := ot
      rw [hu] at hv
      cases hv
  · intro q h z
    rcases z with z | z
    · rw [z] at h; rcases h with h | h | h | h <;> exact absurd (ox.uniq h) (by decide)
    · rw [z] at h; rcases h with h | h | h | h <;> exact h.notI ot
  · exact fun i i0 i1 => Or.inl (fun z => z.elim (fun z => by have := ho i i0 i1; rw [z] at this; exact absurd (ox.uniq this) (by decide)) (fun z => by have := ho i i0 i1; rw [z] at this; exact this.notI ot))
  · exact fun y o w z => z.elim (fun z => by rw [z] at o; exact absurd (ox.uniq o) (by decide)) (fun z => by rw [z] at o; exact o.notI ot)
/-! ===== image, back ===== -/
theorem CW.back {cy : Cy} {M : List Nat} {f0 f1 : Nat → va_E} {x im tp : Nat} {rq : Int → Nat} {rr : Int → Int → Nat} {g g' N T : Int → Int} {G : Int → Int → Int} {m n c : Int} (cw : CW f0 x rq rr im tp g m G N T n) (hg : GI cy M f0) (mx : x ∈ M) (ox : Ob f0 x 7) (c0 : 0 ≤ c) (c1 : c ≤ 1) (hN : 0 ≤ N c) (post : ∃ sh s : Nat, fR f0 x 2 = some sh ∧ aR f0 im c = some s ∧ SR f1 sh rq (G c) (N c) ∧ SR f1 s (rr c) (G c) (N c) ∧ Fo (PS sh rq) cy f0 f1 ∧ Fr0 f0 f1) (g1 : ∀ y : Int, 0 ≤ y → y < 528 → g' y = G c y) : CW f1 x rq rr im tp g' (N c) G N T n := by
  obtain ⟨mt, ot⟩ := tape_in hg mx ox cw.2.2.2.2.1
  obtain ⟨sx, eim, ir, ap, etp, ht, hn⟩ := cw
  obtain ⟨sh, s, e1, e2, sa, sb, fo, fr⟩ := post
  obtain ⟨sr, sm, m0, m1⟩ := sx.at e1
  obtain ⟨ms, o5⟩ := shelf_in hg mx ox e1
  obtain ⟨mi, oi⟩ := im_in hg mx ox eim
  have hc : N c ≤ 12 := by rcases ir c c0 c1 with ⟨q1, q2⟩ | ⟨q1, q2, q3⟩ <;> omega
  obtain ⟨-, -, ho, hi⟩ := id sr.1
  have P0 : ∀ y ci : Nat, Ob f0 y ci → ci ≠ 5 → ci ≠ 0 → ¬ PS sh rq y := fun y ci o h5 h0 z => z.elim (fun z => by rw [z] at o; exact h5 (o.uniq o5)) (fun ⟨i, i0, i1, z⟩ => by rw [z] at o; exact h0 (o.uniq (ho i i0 i1)))
  have nr : ∀ q : Nat, Rl f0 q → ¬ PS sh rq q := fun q h => by rcases h with h | h | h | h <;> exact P0 _ _ h (by decide) (by decide)
  have ex : ∀ k : Nat, fV f1 x k = fV f0 x k := fun k => fo.2.2.1 x 7 k (P0 _ _ ox (by decide) (by decide)) ox (by decide)
  refine ⟨⟨sh, (fR_W (ex 2)).trans e1, ⟨sa.1, sa.2.1, fun i i0 i1 => (sa.2.2 i i0 i1).cg (fun j j0 j1 => g1 _ (by omega) (by omega))⟩, hN, hc⟩, (fR_W (ex 3)).trans eim, fun j j0 j1 => ?_, ap, (fR_W (ex 0)).trans etp, fun i i0 i1 => (fo.2.2.2 tp i ot).trans (ht i i0 i1), (fI_W (ex 1)).trans hn⟩
  have irj := ir j j0 j1
  rcases irj with ⟨q1, q2⟩ | ⟨q1, q2, s', q3, q4, q5⟩
  · exact Or.inl ⟨q1, (fr im j).trans q2⟩
  · have z := ims_in hg mi oi j0 (by omega) q3
    refine Or.inr ⟨q1, q2, s', (fr im j).trans q3, q4.fo fo fr (fun w => w.elim (fun w => sf_ne sr.1 q4.1 q5 w) (fun ⟨i, i0, i1, w⟩ => ?_)) (fun i i0 i1 w => w.elim (fun w => ?_) (fun ⟨k, k0, k1, w⟩ => q5 k i k0 k1 i0 i1 w.symm)) q2 nr, q5⟩
    · have := ho i i0 i1; rw [← w] at this; exact absurd (z.2.uniq this) (by decide)
    · have := q4.1.2.2.1 i i0 i1; rw [w] at this; exact absurd (o5.uniq this) (by decide)
def rrU (rr : Int → Int → Nat) (c : Int) (rn : Int → Nat) : Int → Int → Nat := fun j => if j = c then rn else rr j
theorem rrU_s {rr : Int → Int → Nat} {c : Int} {rn : Int → Nat} : rrU rr c rn c = rn := by unfold rrU; rw [if_pos rfl]
theorem rrU_n {rr : Int → Int → Nat} {c j : Int} {rn : Int → Nat} (h : j ≠ c) : rrU rr c rn j = rr j := by unfold rrU; rw [if_neg h]
theorem AP.symm {a b : Int → Nat} (h : AP a b) : AP b a := fun i j i0 i1 j0 j1 e => h j i j0 j1 i0 i1 e.symm
theorem CW.imaged {cy : Cy} {M : List Nat} {f0 f1 : Nat → va_E} {x im tp : Nat} {rq : Int → Nat} {rr : Int → Int → Nat} {g N N' T : Int → Int} {G G' : Int → Int → Int} {m n c : Int} (cw : CW f0 x rq rr im tp g m G N T n) (hg : GI cy M f0) (mx : x ∈ M) (ox : Ob f0 x 7) (c0 : 0 ≤ c) (c1 : c ≤ 1) (post : ∃ (sh s : Nat) (rn : Int → Nat) (f9 : Nat → va_E), fR f0 x 2 = some sh ∧ ((f9 = f0 ∧ rn = rr c ∧ 0 ≤ N c ∧ aR f0 im c = some s) ∨ (N c = -1 ∧ s ∉ M ∧ (∀ i : Int, 0 ≤ i → i < 12 → rn i ∉ M) ∧ (∀ y ∈ M, y ≠ im → f9 y = f0 y) ∧ (∀ j : Int, 0 ≤ j → j ≠ c → aR f9 im j = aR f0 im j))) ∧ aR f1 im c = some s ∧ SR f1 s rn g m ∧ SR f1 sh rq g m ∧ Fo (PS s rn) cy f9 f1 ∧ Fr0 f9 f1) (nc : N' c = m) (nn : ∀ j : Int, 0 ≤ j → j ≠ c → N' j = N j) (gc : ∀ y : Int, 0 ≤ y → y < 528 → G' c y = g y) (gn : ∀ j : Int, 0 ≤ j → j ≤ 1 → j ≠ c → ∀ y : Int, 0 ≤ y → y < 528 → G' j y = G j y) : ∃ rr' : Int → Int → Nat, CW f1 x rq rr' im tp g m G' N' T n := by
  obtain ⟨mt, ot⟩ := tape_in hg mx ox cw.2.2.2.2.1
  obtain ⟨sx, eim, ir, ap, etp, ht, hn⟩ := cw
  obtain ⟨sh, s, rn, f9, e1, cas, e4, sn, sm', fo, fr⟩ := post
  obtain ⟨sr, sm, m0, m1⟩ := sx.at e1
  obtain ⟨mi, oi⟩ := im_in hg mx ox eim
  have mr := rows_in hg mx ox e1 sr
  have on1 := sn.1.1
  have obn := sn.1.2.2.1
  have nr : ∀ q : Nat, Rl f9 q → ¬ PS s rn q := fun q h z => by
    have h := h.mono fo.1
    rcases z with z | ⟨i, i0, i1, z⟩
    · exact nrl5 on1 q h z
    · exact nrl (obn i i0 i1) q h z
  have nim : ∀ y ci : Nat, Ob f0 y ci → y ≠ im := fun y ci o z => by rw [z] at o; exact o.notR oi
  have tim : tp ≠ im := fun z => by rw [z] at ot; exact ot.noR oi
  -- what the two roads have in common
  have key : (∀ y ∈ M, y ≠ im → f9 y = f0 y) ∧ (∀ j : Int, 0 ≤ j → j ≠ c → aR f9 im j = aR f0 im j) ∧ AP rq rn ∧ (∀ j : Int, 0 ≤ j → j ≤ 1 → j ≠ c → 0 ≤ N j → AP (rr j) rn) := by
    rcases cas with ⟨a1, a2, a3, a4⟩ | ⟨a1, a2, a3, a4, a5⟩
    · subst a1
      subst a2
      refine ⟨fun _ _ _ => rfl, fun _ _ _ => rfl, ?_, fun j j0 j1 jc hj => ap j c j0 j1 c0 c1 jc hj a3⟩
      rcases ir c c0 c1 with ⟨q1, q2⟩ | ⟨q1, q2, s', q3, q4, q5⟩
      · omega
      · exact q5
    · refine ⟨a4, a5, fun i j i0 i1 j0 j1 e => a3 j j0 j1 (e ▸ mr i i0 i1), fun j j0 j1 jc hj => ?_⟩
      rcases ir j j0 j1 with ⟨q1, q2⟩ | ⟨q1, q2, s', q3, q4, q5⟩
      · omega
      · have z := ims_in hg mi oi j0 (by omega) q3
        obtain ⟨_, -, -, -, hrow⟩ := rows_of hg z.1 q4.1
        exact fun i k i0 i1 k0 k1 e => a3 k k0 k1 (e ▸ (hrow i i0 i1).2)
  obtain ⟨k1, k2, k3, k4⟩ := key
  have x9 := k1 x mx (nim x 7 ox)
  have ox9 : Ob f9 x 7 := Ob_of x9 ox
  have npx : ¬ PS s rn x := fun z => by
    have h := fo.1.1 _ _ ox9
    rcases z with z | ⟨i, i0, i1, z⟩
    · rw [z] at h; exact absurd (on1.uniq h) (by decide)
    · rw [z] at h; exact absurd ((obn i i0 i1).uniq h) (by decide)
  have ex : ∀ k : Nat, fV f1 x k = fV f0 x k := fun k => (fo.2.2.1 x 7 k npx ox9 (by decide)).trans (by unfold fV; rw [x9])
  have ot9 : ArI f9 tp cy.1 168 := ArI_of (k1 tp mt tim) ot
  refine ⟨rrU rr c rn, ⟨sh, (fR_W (ex 2)).trans e1, sm', m0, m1⟩, (fR_W (ex 3)).trans eim, fun j j0 j1 => ?_, fun j k j0 j1 h0 h1 jk nj nk => ?_, (fR_W (ex 0)).trans etp, fun i i0 i1 => (fo.2.2.2 tp i ot9).trans ((aI_ofc (k1 tp mt tim)).trans (ht i i0 i1)), (fI_W (ex 1)).trans hn⟩
  · by_cases q : j = c
    · subst q
      rw [rrU_s, nc]
      exact Or.inr ⟨m0, m1, s, e4, ⟨sn.1, sn.2.1, fun i i0 i1 => (sn.2.2 i i0 i1).cg (fun k k0 h1 => gc _ (by omega) (by omega))⟩, k3⟩
    · rw [rrU_n q, nn j j0 q]
      have ea : aR f1 im j = aR f0 im j := (fr im j).trans (k2 j j0 q)
      rcases ir j j0 j1 with ⟨q1, q2⟩ | ⟨q1, q2, s', q3, q4, q5⟩
      · exact Or.inl ⟨q1, ea.trans q2⟩
      · have z := ims_in hg mi oi j0 (by omega) q3
        have s9 : SR f9 s' (rr j) (G j) (N j) := q4.offS hg z.1 oi q2 k1
        have apj := k4 j j0 j1 q q1
        have os9 := s9.1.1
        have s1 : SR f1 s' (rr j) (G j) (N j) := by
          refine s9.fo fo fr (fun w => ?_) (fun i i0 i1 w => ?_) q2 nr
          · rcases w with w | ⟨i, i0, i1, w⟩
            · rcases cas with ⟨a1, a2, a3, a4⟩ | ⟨a1, a2, a3, a4, a5⟩
              · rcases ir c c0 c1 with ⟨u1, u2⟩ | ⟨u1, u2, s2, u3, u4, u5⟩
                · omega
                · have us : s2 = s := Option.some.inj (u3.symm.trans a4)
                  exact sf_ne u4.1 q4.1 (ap c j c0 c1 j0 j1 (fun y => q y.symm) u1 q1) (w.trans us.symm)
              · exact a2 (w ▸ z.1)
            · have h := fo.1.1 _ _ os9
              rw [w] at h
              exact absurd ((obn i i0 i1).uniq h) (by decide)
          · rcases w with w | ⟨k, k0, k1', w⟩
            · have h := fo.1.1 _ _ (s9.1.2.2.1 i i0 i1)
              rw [w] at h
              exact absurd (on1.uniq h) (by decide)
            · exact apj i k i0 i1 k0 k1' w
        exact Or.inr ⟨q1, q2, s', ea.trans q3, ⟨s1.1, s1.2.1, fun i i0 i1 => (s1.2.2 i i0 i1).cg (fun k k0 h1 => gn j j0 j1 q _ (by omega) (by omega))⟩, q5⟩
  · by_cases qj : j = c
    · subst qj
      have qk : k ≠ j := fun e => jk e.symm
      rw [rrU_s, rrU_n qk]
      rw [nn k h0 qk] at nk
      exact (k4 k h0 h1 qk nk).symm
    · by_cases qk : k = c
      · subst qk
        rw [rrU_s, rrU_n qj]
        rw [nn j j0 qj] at nj
        exact k4 j j0 j1 qj nj
      · exact absurd jk (by omega)
