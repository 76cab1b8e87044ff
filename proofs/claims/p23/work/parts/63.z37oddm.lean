/-! ===== CRO: CR, and the odds ===== -/
theorem MV.b11 {f : Nat → va_E} {a : Nat} {ad : Nat → Nat} (h : MV f a ad) {b : Int} (b0 : 0 ≤ b) (b1 : b < fI f a 5) : (0 ≤ aI f (ad 4) (44 * b + 11) ∧ aI f (ad 4) (44 * b + 11) ≤ 16) ∧ 0 ≤ aI f (ad 4) (44 * b + 10) := by
  have := h.row b b0 b1
  omega
def OXm (f : Nat → va_E) (rq : Int → Nat) (rr : Int → Int → Nat) (fm : Nat → va_E) (mo : Nat) (ad : Nat → Nat) : Prop := OX f rq rr (aI fm (ad 4)) (fI fm mo 5) (gIm fm ad) (aI fm (ad 7))
def CRO (f : Nat → va_E) (x : Nat) (fm : Nat → va_E) (mo : Nat) (ad : Nat → Nat) : Prop := (∃ (rq : Int → Nat) (rr : Int → Int → Nat) (im tp : Nat), CWm f x rq rr im tp fm mo ad ∧ OXm f rq rr fm mo ad) ∧ BT fm ad
theorem OX.gcg {f : Nat → va_E} {rq : Int → Nat} {rr : Int → Int → Nat} {g g' N : Int → Int} {G : Int → Int → Int} {m : Int} (h : OX f rq rr g m G N) (e : ∀ y : Int, 0 ≤ y → y < 44 * m → g' y = g y) : OX f rq rr g' m G N :=
  ⟨h.1, fun i i0 i1 => (h.2.1 i i0 i1).to (fun _ z => z) (fun j j0 j1 => e _ (by omega) (by omega)), h.2.2⟩
/-- the odds of a row that there is -/
theorem OX.pick {f : Nat → va_E} {rq : Int → Nat} {rr : Int → Int → Nat} {g N : Int → Int} {G : Int → Int → Int} {m : Int} (o : OX f rq rr g m G N) (c : Int) : ∃ O : Int → Int, 0 ≤ c ∧ c < m → OC f (rq c) O ∧ OM g (44 * c) O ∧ OKk g (44 * c) O ∧ 0 ≤ g (44 * c + 11) ∧ g (44 * c + 11) ≤ 16 := by
  rcases Classical.em (0 ≤ c ∧ c < m) with z | z
  · obtain ⟨O, h⟩ := o.2.1 c z.1 z.2
    exact ⟨O, fun _ => h⟩
  · exact ⟨fun _ => -2, fun w => absurd w z⟩
theorem CRO.kp {f fm f1 : Nat → va_E} {x mo : Nat} {ad : Nat → Nat} {rs fs : List Nat} (h : CRO f x fm mo ad) (k : Kp mo ad rs fs fm f1) (h4 : 4 ∉ rs) (h6 : 6 ∉ rs) (h7 : 7 ∉ rs) (h8 : 8 ∉ rs) (h5 : 5 ∉ fs) (h9 : 9 ∉ fs) : CRO f x f1 mo ad := by
  obtain ⟨⟨rq, rr, im, tp, cw, o⟩, bt⟩ := h
  exact ⟨⟨rq, rr, im, tp, CW.to cw (fun y => k.1 4 rfl h4 y) (k.2 5 h5) (fun j y => k.1 6 rfl h6 _) (fun j => k.1 7 rfl h7 j) (fun i => k.1 8 rfl h8 i) (k.2 9 h9), OX.eq o (fun y => k.1 4 rfl h4 y) (k.2 5 h5) (fun j y => k.1 6 rfl h6 _) (fun j => k.1 7 rfl h7 j)⟩, bt.kp k h8⟩
theorem CRO.eh {cy : Cy} {M : List Nat} {f g fm : Nat → va_E} {x mo : Nat} {ad : Nat → Nat} (h : CRO f x fm mo ad) (hg : GI cy M f) (mx : x ∈ M) (ox : Ob f x 7) (z : Eh cy f g) : CRO g x fm mo ad := by
  obtain ⟨⟨rq, rr, im, tp, cw, o⟩, bt⟩ := h
  exact ⟨⟨rq, rr, im, tp, CW.ef cw hg mx ox z.ef, OX.eh o z⟩, bt⟩
theorem CRO.off {cy : Cy} {M : List Nat} {f g fm : Nat → va_E} {x mo : Nat} {ad : Nat → Nat} (h : CRO f x fm mo ad) (hg : GI cy M f) (mx : x ∈ M) (ox : Ob f x 7) (e : ∀ y ∈ M, g y = f y) : CRO g x fm mo ad := by
  obtain ⟨⟨rq, rr, im, tp, cw, o⟩, bt⟩ := h
  exact ⟨⟨rq, rr, im, tp, CW.off cw hg mx ox e, OX.off o cw hg mx ox e⟩, bt⟩
theorem CW.imagedE {cy : Cy} {M : List Nat} {f0 f1 : Nat → va_E} {x im tp : Nat} {rq : Int → Nat} {rr : Int → Int → Nat} {g N N' T : Int → Int} {G G' : Int → Int → Int} {m n c : Int} (cw : CW f0 x rq rr im tp g m G N T n) (hg : GI cy M f0) (mx : x ∈ M) (ox : Ob f0 x 7) (c0 : 0 ≤ c) (c1 : c ≤ 1) {sh s : Nat} {rn : Int → Nat} {f9 : Nat → va_E} (e1 : fR f0 x 2 = some sh) (cas : (f9 = f0 ∧ rn = rr c ∧ 0 ≤ N c ∧ aR f0 im c = some s) ∨ (N c = -1 ∧ s ∉ M ∧ (∀ i : Int, 0 ≤ i → i < 12 → rn i ∉ M) ∧ (∀ y ∈ M, y ≠ im → f9 y = f0 y) ∧ (∀ j : Int, 0 ≤ j → j ≠ c → aR f9 im j = aR f0 im j))) (e4 : aR f1 im c = some s) (sn : SR f1 s rn g m) (sm' : SR f1 sh rq g m) (fo : Fo (PS s rn) cy f9 f1) (fr : Fr0 f9 f1) (nc : N' c = m) (nn : ∀ j : Int, 0 ≤ j → j ≠ c → N' j = N j) (gc : ∀ y : Int, 0 ≤ y → y < 528 → G' c y = g y) (gn : ∀ j : Int, 0 ≤ j → j ≤ 1 → j ≠ c → ∀ y : Int, 0 ≤ y → y < 528 → G' j y = G j y) : CW f1 x rq (rrU rr c rn) im tp g m G' N' T n := by
  obtain ⟨mt, ot⟩ := tape_in hg mx ox cw.2.2.2.2.1
  obtain ⟨sx, eim, ir, ap, etp, ht, hn⟩ := cw
  obtain ⟨sr, sm, m0, m1⟩ := sx.at e1
  obtain ⟨mi, oi⟩ := im_in hg mx ox eim
  have mr := rows_in hg mx ox e1 sr
  have on1 := sn.1.1
  have obn := sn.1.2.2.1
  have nr : ∀ q : Nat, Rl f9 q → ¬ PS s rn q := fun q h z => by
    have h := h.mono fo.1
    rcases z with z | ⟨i, i0, i1, z⟩
    · exact nrl5 on1 q h z
    · exact nrl (obn i i0 i1) q h z
  have nim : ∀ y ci : Nat, Ob f0 y ci → y ≠ im := fun y ci o z => by rw [z] at o; exact o.notR oi
  have tim : tp ≠ im := fun z => by rw [z] at ot; exact ot.noR oi
  -- what the two roads have in common
  have key : (∀ y ∈ M, y ≠ im → f9 y = f0 y) ∧ (∀ j : Int, 0 ≤ j → j ≠ c → aR f9 im j = aR f0 im j) ∧ AP rq rn ∧ (∀ j : Int, 0 ≤ j → j ≤ 1 → j ≠ c → 0 ≤ N j → AP (rr j) rn) := by
    rcases cas with ⟨a1, a2, a3, a4⟩ | ⟨a1, a2, a3, a4, a5⟩
    · subst a1
      subst a2
      refine ⟨fun _ _ _ => rfl, fun _ _ _ => rfl, ?_, fun j j0 j1 jc hj => ap j c j0 j1 c0 c1 jc hj a3⟩
      rcases ir c c0 c1 with ⟨q1, q2⟩ | ⟨q1, q2, s', q3, q4, q5⟩
      · omega
      · exact q5
    · refine ⟨a4, a5, fun i j i0 i1 j0 j1 e => a3 j j0 j1 (e ▸ mr i i0 i1), fun j j0 j1 jc hj => ?_⟩
      rcases ir j j0 j1 with ⟨q1, q2⟩ | ⟨q1, q2, s', q3, q4, q5⟩
      · omega
      · have z := ims_in hg mi oi j0 (by omega) q3
        obtain ⟨_, -, -, -, hrow⟩ := rows_of hg z.1 q4.1
        exact fun i k i0 i1 k0 k1 e => a3 k k0 k1 (e ▸ (hrow i i0 i1).2)
  obtain ⟨k1, k2, k3, k4⟩ := key
  have x9 := k1 x mx (nim x 7 ox)
  have ox9 : Ob f9 x 7 := Ob_of x9 ox
  have npx : ¬ PS s rn x := fun z => by
    have h := fo.1.1 _ _ ox9
    rcases z with z | ⟨i, i0, i1, z⟩
    · rw [z] at h; exact absurd (on1.uniq h) (by decide)
    · rw [z] at h; exact absurd ((obn i i0 i1).uniq h) (by decide)
  have ex : ∀ k : Nat, fV f1 x k = fV f0 x k := fun k => (fo.2.2.1 x 7 k npx ox9 (by decide)).trans (by unfold fV; rw [x9])
  have ot9 : ArI f9 tp cy.1 168 := ArI_of (k1 tp mt tim) ot
  refine ⟨⟨sh, (fR_W (ex 2)).trans e1, sm', m0, m1⟩, (fR_W (ex 3)).trans eim, fun j j0 j1 => ?_, fun j k j0 j1 h0 h1 jk nj nk => ?_, (fR_W (ex 0)).trans etp, fun i i0 i1 => (fo.2.2.2 tp i ot9).trans ((aI_ofc (k1 tp mt tim)).trans (ht i i0 i1)), (fI_W (ex 1)).trans hn⟩
  · by_cases q : j = c
    · subst q
      rw [rrU_s, nc]
      exact Or.inr ⟨m0, m1, s, e4, ⟨sn.1, sn.2.1, fun i i0 i1 => (sn.2.2 i i0 i1).cg (fun k k0 h1 => gc _ (by omega) (by omega))⟩, k3⟩
    · rw [rrU_n q, nn j j0 q]
      have ea : aR f1 im j = aR f0 im j := (fr im j).trans (k2 j j0 q)
      rcases ir j j0 j1 with ⟨q1, q2⟩ | ⟨q1, q2, s', q3, q4, q5⟩
      · exact Or.inl ⟨q1, ea.trans q2⟩
      · have z := ims_in hg mi oi j0 (by omega) q3
        have s9 : SR f9 s' (rr j) (G j) (N j) := q4.offS hg z.1 oi q2 k1
        have apj := k4 j j0 j1 q q1
        have os9 := s9.1.1
        have s1 : SR f1 s' (rr j) (G j) (N j) := by
          refine s9.fo fo fr (fun w => ?_) (fun i i0 i1 w => ?_) q2 nr
          · rcases w with w | ⟨i, i0, i1, w⟩
            · rcases cas with ⟨a1, a2, a3, a4⟩ | ⟨a1, a2, a3, a4, a5⟩
              · rcases ir c c0 c1 with ⟨u1, u2⟩ | ⟨u1, u2, s2, u3, u4, u5⟩
                · omega
                · have us : s2 = s := Option.some.inj (u3.symm.trans a4)
                  exact sf_ne u4.1 q4.1 (ap c j c0 c1 j0 j1 (fun y => q y.symm) u1 q1) (w.trans us.symm)
              · exact a2 (w ▸ z.1)
            · have h := fo.1.1 _ _ os9
              rw [w] at h
              exact absurd ((obn i i0 i1).uniq h) (by decide)
          · rcases w with w | ⟨k, k0, k1', w⟩
            · have h := fo.1.1 _ _ (s9.1.2.2.1 i i0 i1)
              rw [w] at h
              exact absurd (on1.uniq h) (by decide)
            · exact apj i k i0 i1 k0 k1' w
        exact Or.inr ⟨q1, q2, s', ea.trans q3, ⟨s1.1, s1.2.1, fun i i0 i1 => (s1.2.2 i i0 i1).cg (fun k k0 h1 => gn j j0 j1 q _ (by omega) (by omega))⟩, q5⟩
  · by_cases qj : j = c
    · subst qj
      have qk : k ≠ j := fun e => jk e.symm
      rw [rrU_s, rrU_n qk]
      rw [nn k h0 qk] at nk
      exact (k4 k h0 h1 qk nk).symm
    · by_cases qk : k = c
      · subst qk
        rw [rrU_s, rrU_n qj]
        rw [nn j j0 qj] at nj
        exact k4 j j0 j1 qj nj
      · exact absurd jk (by omega)
/-! ===== both answer alike, and CRO holds behind ===== -/
theorem CRO.cancel {cy : Cy} {M : List Nat} {f0 f1 fm f2 : Nat → va_E} {x mo im tp : Nat} {ad : Nat → Nat} {rq : Int → Nat} {rr : Int → Int → Nat} {r r' c c' : Int} (cw : CWm f0 x rq rr im tp fm mo ad) (o : OXm f0 rq rr fm mo ad) (bt : BT fm ad) (hg : GI cy M f0) (mx : x ∈ M) (ox : Ob f0 x 7) (hx : Ex cy f0 f1)
    (e : (r = 0 ∧ (c < 0 ∨ (fI fm mo 5) ≤ c) ∧ f1 = f0) ∨ (r = 1 ∧ 0 ≤ c ∧ c < (fI fm mo 5) ∧ ∃ sh ar : Nat, fR f0 x 2 = some sh ∧ fR f0 sh 0 = some ar ∧ RM f0 f1 sh ar ∧ RR f1 ar (rmv rq c ((fI fm mo 5) - 1)) ∧ fI f1 sh 1 = (fI fm mo 5) - 1))
    (k : Kp mo ad [4] [5, 10] fm f2) (q : ((r' = 0 ∧ (c' < 0 ∨ fI fm mo 5 ≤ c') ∧ fI f2 mo 5 = fI fm mo 5 ∧ ∀ y : Int, aI f2 (ad 4) y = aI fm (ad 4) y) ∨ (r' = 1 ∧ 0 ≤ c' ∧ c' < fI fm mo 5 ∧ fI f2 mo 5 = fI fm mo 5 - 1 ∧ (∀ y : Int, 0 ≤ y → y < 44 * c' → aI f2 (ad 4) y = aI fm (ad 4) y) ∧ (∀ y : Int, 44 * c' ≤ y → y < 44 * (fI fm mo 5 - 1) → aI f2 (ad 4) y = aI fm (ad 4) (y + 44))))) (ec : c = c') : CRO f1 x f2 mo ad ∧ r = r' := by
  subst ec
  have b2 := bt.kp k (by decide)
  have m12 : fI fm mo 5 ≤ 12 := (CW.rqs cw hg mx ox).2.1
  rcases e with ⟨e1, e2, e3⟩ | ⟨e1, e2, e3, e4⟩ <;> rcases q with ⟨d1, d2, d3, d4⟩ | ⟨d1, d2, d3, d4, d5, d6⟩
  · rw [e3]
    exact ⟨⟨⟨rq, rr, im, tp, CW.to cw d4 d3 (fun j y => k.1 6 rfl (by decide) _) (fun j => k.1 7 rfl (by decide) j) (fun i => k.1 8 rfl (by decide) i) (k.2 9 (by decide)), OX.eq o d4 d3 (fun j y => k.1 6 rfl (by decide) _) (fun j => k.1 7 rfl (by decide) j)⟩, b2⟩, by omega⟩
  · exact absurd d2 (by omega)
  · exact absurd e2 (by omega)
  · obtain ⟨sh, ar, a1, a2, rm, a4⟩ := id e4
    exact ⟨⟨⟨_, rr, im, tp, CW.to (CW.cancel cw hg mx ox hx e2 e3 e4 d5 d6) (fun _ => rfl) d4 (fun j y => k.1 6 rfl (by decide) _) (fun j => k.1 7 rfl (by decide) j) (fun i => k.1 8 rfl (by decide) i) (k.2 9 (by decide)), OX.eq (OX.cancel o m12 e2 e3 rm d5 d6) (fun _ => rfl) d4 (fun j y => k.1 6 rfl (by decide) _) (fun j => k.1 7 rfl (by decide) j)⟩, b2⟩, by omega⟩
theorem CRO.split {cy : Cy} {M : List Nat} {f0 f1 fm f2 : Nat → va_E} {x mo im tp : Nat} {ad : Nat → Nat} {rq : Int → Nat} {rr : Int → Int → Nat} {O : Int → Int} {r r' c c' d d' : Int} (cw : CWm f0 x rq rr im tp fm mo ad) (o : OXm f0 rq rr fm mo ad) (bt : BT fm ad) (hg : GI cy M f0) (mx : x ∈ M) (ox : Ob f0 x 7) (hg1 : GI cy M f1) (hx : Ex cy f0 f1) (mv : MV fm mo ad) (mv2 : MV f2 mo ad) (hO : 0 ≤ c ∧ c < fI fm mo 5 → OC f0 (rq c) O ∧ OM (aI fm (ad 4)) (44 * c) O ∧ OKk (aI fm (ad 4)) (44 * c) O ∧ 0 ≤ aI fm (ad 4) (44 * c + 11) ∧ aI fm (ad 4) (44 * c + 11) ≤ 16)
    (e : (r = -1 ∧ (c < 0 ∨ (fI fm mo 5) ≤ c ∨ d < 0 ∨ 36524 < d ∨ 12 ≤ (fI fm mo 5) ∨ cn (KG (aI fm (ad 4)) (44 * c)) 0 d = 0 ∨ cn (KG (aI fm (ad 4)) (44 * c)) d 36525 = 0) ∧ f1 = f0) ∨ (r = (fI fm mo 5) ∧ 0 ≤ c ∧ c < (fI fm mo 5) ∧ 0 ≤ d ∧ d ≤ 36524 ∧ (fI fm mo 5) < 12 ∧ cn (KG (aI fm (ad 4)) (44 * c)) 0 d ≠ 0 ∧ cn (KG (aI fm (ad 4)) (44 * c)) d 36525 ≠ 0 ∧ ∃ (sh : Nat) (f9 : Nat → va_E), fR f0 x 2 = some sh ∧ Fo (fun y => y = rq c ∨ y = rq (fI fm mo 5)) cy f0 f9 ∧ Fr0 f0 f9 ∧ RB f9 (rq c) (HWd (aI fm (ad 4)) (44 * c) d) (44 * c) ∧ RB f9 (rq (fI fm mo 5)) (TWd (aI fm (ad 4)) (44 * c) d) (44 * c) ∧ RK f9 f1 sh ∧ fI f1 sh 1 = (fI fm mo 5) + 1 ∧ OC f9 (rq c) (cutH O d) ∧ OC f9 (rq (fI fm mo 5)) (cutT O d) ∧ Em (fun y => y = rq c ∨ y = rq (fI fm mo 5)) f0 f9))
    (k : Kp mo ad [4, 12, 13] [5, 10] fm f2) (q : ((r' = -1 ∧ (c' < 0 ∨ fI fm mo 5 ≤ c' ∨ d' < 0 ∨ 36524 < d' ∨ 12 ≤ fI fm mo 5 ∨ cn (KG (aI fm (ad 4)) (44 * c')) 0 d' = 0 ∨ cn (KG (aI fm (ad 4)) (44 * c')) d' 36525 = 0) ∧ fI f2 mo 5 = fI fm mo 5 ∧ ∀ y : Int, aI f2 (ad 4) y = aI fm (ad 4) y) ∨ (r' = fI fm mo 5 ∧ 0 ≤ c' ∧ c' < fI fm mo 5 ∧ 0 ≤ d' ∧ d' ≤ 36524 ∧ fI fm mo 5 < 12 ∧ cn (KG (aI fm (ad 4)) (44 * c')) 0 d' ≠ 0 ∧ cn (KG (aI fm (ad 4)) (44 * c')) d' 36525 ≠ 0 ∧ fI f2 mo 5 = fI fm mo 5 + 1 ∧ OM (aI f2 (ad 4)) (44 * c') (cutH O d') ∧ OM (aI f2 (ad 4)) (44 * fI fm mo 5) (cutT O d') ∧ (∀ y : Int, 0 ≤ y → (y < 44 * fI fm mo 5 ∧ (y < 44 * c' ∨ 44 * c' + 43 < y)) → aI f2 (ad 4) y = aI fm (ad 4) y) ∧ (∀ j : Int, 0 ≤ j → j ≤ 10 → aI f2 (ad 4) (44 * c' + j) = HWd (aI fm (ad 4)) (44 * c') d' (44 * c' + j)) ∧ (∀ j : Int, 0 ≤ j → j ≤ 10 → aI f2 (ad 4) (44 * fI fm mo 5 + j) = TWd (aI fm (ad 4)) (44 * c') d' (44 * c' + j))))) (ec : c = c') (ed : d = d') : CRO f1 x f2 mo ad ∧ r = r' := by
  subst ec
  subst ed
  have b2 := bt.kp k (by decide)
  rcases e with ⟨e1, e2, e3⟩ | ⟨e1, e2, e3, e4, e5, e6, e7, e8, sh, f9, a1, a2, a3, a4, a5, a6, a7, oh, ot, em⟩ <;> rcases q with ⟨d1, d2, d3, d4⟩ | ⟨d1, d2, d3, d4, d5, d6, d7, d8, d9, mh, mt, d10, d11, d12⟩
  · rw [e3]
    exact ⟨⟨⟨rq, rr, im, tp, CW.to cw d4 d3 (fun j y => k.1 6 rfl (by decide) _) (fun j => k.1 7 rfl (by decide) j) (fun i => k.1 8 rfl (by decide) i) (k.2 9 (by decide)), OX.eq o d4 d3 (fun j y => k.1 6 rfl (by decide) _) (fun j => k.1 7 rfl (by decide) j)⟩, b2⟩, by omega⟩
  · exact absurd e2 (by omega)
  · exact absurd d2 (by omega)
  · obtain ⟨o1, o2, o3, o4, o5⟩ := hO ⟨e2, e3⟩
    have b1 := (mv.b11 e2 e3).2
    have c1 := (mv2.b11 e2 (by omega)).1
    have c2 := (mv2.b11 (b := fI fm mo 5) (by omega) (by omega)).1
    exact ⟨⟨⟨rq, rr, im, tp, CW.to (CW.split cw hg hg1 mx ox hx e2 e3 e6 ⟨sh, f9, a1, a2, a3, a4, a5, a6, a7⟩ d10 d11 d12) (fun _ => rfl) d9 (fun j y => k.1 6 rfl (by decide) _) (fun j => k.1 7 rfl (by decide) j) (fun i => k.1 8 rfl (by decide) i) (k.2 9 (by decide)), OX.eq (OX.split o cw hg mx ox e2 e3 e6 em a6 oh ot o3 e4 b1 e7 mh mt c1 c2 d10 d11 d12) (fun _ => rfl) d9 (fun j y => k.1 6 rfl (by decide) _) (fun j => k.1 7 rfl (by decide) j)⟩, b2⟩, by omega⟩
theorem CRO.image {cy : Cy} {M : List Nat} {f0 f1 fm f2 : Nat → va_E} {x mo im tp : Nat} {ad : Nat → Nat} {rq : Int → Nat} {rr : Int → Int → Nat} {r r' c c' : Int} (cw : CWm f0 x rq rr im tp fm mo ad) (o : OXm f0 rq rr fm mo ad) (bt : BT fm ad) (hg : GI cy M f0) (mx : x ∈ M) (ox : Ob f0 x 7)
    (e : (r = 0 ∧ (c < 0 ∨ 1 < c) ∧ f1 = f0) ∨ (r = 1 ∧ 0 ≤ c ∧ c ≤ 1 ∧ ∃ (sh s : Nat) (rn : Int → Nat) (f9 : Nat → va_E), fR f0 x 2 = some sh ∧ ((f9 = f0 ∧ rn = (rr c) ∧ 0 ≤ (aI fm (ad 7) c) ∧ aR f0 im c = some s) ∨ ((aI fm (ad 7) c) = -1 ∧ s ∉ M ∧ (∀ i : Int, 0 ≤ i → i < 12 → rn i ∉ M) ∧ (∀ x ∈ M, x ≠ im → f9 x = f0 x) ∧ (∀ j : Int, 0 ≤ j → j ≠ c → aR f9 im j = aR f0 im j) ∧ ARN M f9 rn)) ∧ aR f1 im c = some s ∧ SR f1 s rn (aI fm (ad 4)) (fI fm mo 5) ∧ SR f1 sh rq (aI fm (ad 4)) (fI fm mo 5) ∧ Fo (PS s rn) cy f9 f1 ∧ Fr0 f9 f1 ∧ CFO f9 f1 s rn rq (fI fm mo 5)))
    (k : Kp mo ad [6, 7] [10] fm f2) (q : ((r' = 0 ∧ (c' < 0 ∨ 1 < c') ∧ (∀ y : Int, aI f2 (ad 6) y = aI fm (ad 6) y) ∧ ∀ y : Int, aI f2 (ad 7) y = aI fm (ad 7) y) ∨ (r' = 1 ∧ 0 ≤ c' ∧ c' ≤ 1 ∧ aI f2 (ad 7) c' = fI fm mo 5 ∧ (∀ y : Int, 0 ≤ y → y ≠ c' → aI f2 (ad 7) y = aI fm (ad 7) y) ∧ (∀ j : Int, 0 ≤ j → j < 528 → aI f2 (ad 6) (528 * c' + j) = aI fm (ad 4) j) ∧ ∀ y : Int, 0 ≤ y → (y < 528 * c' ∨ 528 * c' + 528 ≤ y) → aI f2 (ad 6) y = aI fm (ad 6) y))) (ec : c = c') : CRO f1 x f2 mo ad ∧ r = r' := by
  subst ec
  have b2 := bt.kp k (by decide)
  rcases e with ⟨e1, e2, e3⟩ | ⟨e1, e2, e3, sh, s, rn, f9, a1, cas, a3, a4, a5, a6, a7, co⟩ <;> rcases q with ⟨d1, d2, d3, d4⟩ | ⟨d1, d2, d3, d4, d5, d6, d7⟩
  · rw [e3]
    exact ⟨⟨⟨rq, rr, im, tp, CW.to cw (fun y => k.1 4 rfl (by decide) y) (k.2 5 (by decide)) (fun j y => d3 _) d4 (fun i => k.1 8 rfl (by decide) i) (k.2 9 (by decide)), OX.eq o (fun y => k.1 4 rfl (by decide) y) (k.2 5 (by decide)) (fun j y => d3 _) d4⟩, b2⟩, by omega⟩
  · exact absurd d2 (by omega)
  · exact absurd e2 (by omega)
  · have cw1 := CW.imagedE (N' := aI f2 (ad 7)) (G' := gIm f2 ad) cw hg mx ox e2 e3 a1 (cas.imp (fun z => z) (fun z => ⟨z.1, z.2.1, z.2.2.1, z.2.2.2.1, z.2.2.2.2.1⟩)) a3 a4 a5 a6 a7 d4 d5 d6 (fun j j0 j1 jc y y0 y1 => d7 _ (by omega) (by omega))
    have o1 := OX.imaged (N' := aI f2 (ad 7)) (G' := gIm f2 ad) o cw hg mx ox e2 e3 (cas.imp (fun z => ⟨z.1, z.2.1, z.2.2.1⟩) (fun z => ⟨z.1, z.2.2.1, z.2.2.2.1, z.2.2.2.2.2⟩)) a4.1 a6.1 co d4 d5 d6 (fun j j0 j1 jc y y0 y1 => d7 _ (by omega) (by omega))
    exact ⟨⟨⟨rq, _, im, tp, CW.to cw1 (fun y => k.1 4 rfl (by decide) y) (k.2 5 (by decide)) (fun _ _ => rfl) (fun _ => rfl) (fun i => k.1 8 rfl (by decide) i) (k.2 9 (by decide)), OX.eq o1 (fun y => k.1 4 rfl (by decide) y) (k.2 5 (by decide)) (fun _ _ => rfl) (fun _ => rfl)⟩, b2⟩, by omega⟩
theorem CRO.back {cy : Cy} {M : List Nat} {f0 f1 fm f2 : Nat → va_E} {x mo im tp : Nat} {ad : Nat → Nat} {rq : Int → Nat} {rr : Int → Int → Nat} {r r' c c' : Int} (cw : CWm f0 x rq rr im tp fm mo ad) (o : OXm f0 rq rr fm mo ad) (bt : BT fm ad) (hg : GI cy M f0) (mx : x ∈ M) (ox : Ob f0 x 7)
    (e : (r = 0 ∧ (c < 0 ∨ 1 < c ∨ (aI fm (ad 7) c) = -1) ∧ f1 = f0) ∨ (r = 1 ∧ 0 ≤ c ∧ c ≤ 1 ∧ 0 ≤ (aI fm (ad 7) c) ∧ ∃ sh s : Nat, fR f0 x 2 = some sh ∧ aR f0 im c = some s ∧ SR f1 sh rq (gIm fm ad c) (aI fm (ad 7) c) ∧ SR f1 s (rr c) (gIm fm ad c) (aI fm (ad 7) c) ∧ Fo (PS sh rq) cy f0 f1 ∧ Fr0 f0 f1 ∧ CFO f0 f1 sh rq (rr c) (aI fm (ad 7) c)))
    (k : Kp mo ad [4] [5, 10] fm f2) (q : ((r' = 0 ∧ (c' < 0 ∨ 1 < c' ∨ aI fm (ad 7) c' < 0) ∧ fI f2 mo 5 = fI fm mo 5 ∧ ∀ y : Int, aI f2 (ad 4) y = aI fm (ad 4) y) ∨ (r' = 1 ∧ 0 ≤ c' ∧ c' ≤ 1 ∧ 0 ≤ aI fm (ad 7) c' ∧ fI f2 mo 5 = aI fm (ad 7) c' ∧ ∀ j : Int, 0 ≤ j → j < 528 → aI f2 (ad 4) j = aI fm (ad 6) (528 * c' + j)))) (ec : c = c') : CRO f1 x f2 mo ad ∧ r = r' := by
  subst ec
  have b2 := bt.kp k (by decide)
  rcases e with ⟨e1, e2, e3⟩ | ⟨e1, e2, e3, e4, sh, s, a1, a2, a3, a4, a5, a6, co⟩ <;> rcases q with ⟨d1, d2, d3, d4⟩ | ⟨d1, d2, d3, d4, d5, d6⟩
  · rw [e3]
    exact ⟨⟨⟨rq, rr, im, tp, CW.to cw d4 d3 (fun j y => k.1 6 rfl (by decide) _) (fun j => k.1 7 rfl (by decide) j) (fun i => k.1 8 rfl (by decide) i) (k.2 9 (by decide)), OX.eq o d4 d3 (fun j y => k.1 6 rfl (by decide) _) (fun j => k.1 7 rfl (by decide) j)⟩, b2⟩, by omega⟩
  · exact absurd e2 (by omega)
  · exact absurd d2 (by omega)
  · exact ⟨⟨⟨rq, rr, im, tp, CW.to (CW.back (g' := aI f2 (ad 4)) cw hg mx ox e2 e3 e4 ⟨sh, s, a1, a2, a3, a4, a5, a6⟩ d6) (fun _ => rfl) d5 (fun j y => k.1 6 rfl (by decide) _) (fun j => k.1 7 rfl (by decide) j) (fun i => k.1 8 rfl (by decide) i) (k.2 9 (by decide)), OX.eq (OX.back (g' := aI f2 (ad 4)) o cw hg mx ox e2 e3 e4 a1 co d6) (fun _ => rfl) d5 (fun j y => k.1 6 rfl (by decide) _) (fun j => k.1 7 rfl (by decide) j)⟩, b2⟩, by omega⟩
theorem CRO.ended {cy : Cy} {M : List Nat} {f0 f1 fm f2 : Nat → va_E} {x mo im tp : Nat} {ad : Nat → Nat} {rq : Int → Nat} {rr : Int → Int → Nat} {r r' c c' : Int} (cw : CWm f0 x rq rr im tp fm mo ad) (o : OXm f0 rq rr fm mo ad) (bt : BT fm ad) (hg : GI cy M f0) (mx : x ∈ M) (ox : Ob f0 x 7)
    (e : (r = -1 ∧ (c < 0 ∨ fI f0 x 1 < c) ∧ f1 = f0) ∨ (0 ≤ c ∧ c ≤ fI f0 x 1 ∧ r = c ∧ fI f1 x 1 = c ∧ FT f0 f1 x x))
    (k : Kp mo ad [] [9, 10] fm f2) (q : r' = -1 ∧ (c' < 0 ∨ fI fm mo 9 < c') ∧ fI f2 mo 9 = fI fm mo 9 ∨ 0 ≤ c' ∧ c' ≤ fI fm mo 9 ∧ r' = c' ∧ fI f2 mo 9 = c') (ec : c = c') : CRO f1 x f2 mo ad ∧ r = r' := by
  subst ec
  have b2 := bt.kp k (by decide)
  have hn : fI f0 x 1 = fI fm mo 9 := cw.2.2.2.2.2.2
  have eo : ∀ {f : Nat → va_E}, OXm f rq rr fm mo ad → OXm f rq rr f2 mo ad := fun h => OX.eq h (fun y => k.1 4 rfl (by decide) y) (k.2 5 (by decide)) (fun j y => k.1 6 rfl (by decide) _) (fun j => k.1 7 rfl (by decide) j)
  rcases e with ⟨e1, e2, e3⟩ | ⟨e1, e2, e3, e4, e5⟩ <;> rcases q with ⟨d1, d2, d3⟩ | ⟨d1, d2, d3, d4⟩
  · rw [e3]
    exact ⟨⟨⟨rq, rr, im, tp, CW.to cw (fun y => k.1 4 rfl (by decide) y) (k.2 5 (by decide)) (fun j y => k.1 6 rfl (by decide) _) (fun j => k.1 7 rfl (by decide) j) (fun i => k.1 8 rfl (by decide) i) d3, eo o⟩, b2⟩, by omega⟩
  · exact absurd e2 (by omega)
  · exact absurd d2 (by omega)
  · exact ⟨⟨⟨rq, rr, im, tp, CW.to (CW.own cw hg mx ox (fun y _ h => e5.1 y h h) e5.2 e4) (fun y => k.1 4 rfl (by decide) y) (k.2 5 (by decide)) (fun j y => k.1 6 rfl (by decide) _) (fun j => k.1 7 rfl (by decide) j) (fun i => k.1 8 rfl (by decide) i) d4, eo (OX.own o cw hg mx ox (fun y _ h _ => e5.1 y h h))⟩, b2⟩, by omega⟩
theorem CRO.feed {cy : Cy} {M : List Nat} {f0 f1 fm f2 : Nat → va_E} {x mo im tp : Nat} {ad : Nat → Nat} {rq : Int → Nat} {rr : Int → Int → Nat} {r r' a b c a' b' c' : Int} (cw : CWm f0 x rq rr im tp fm mo ad) (o : OXm f0 rq rr fm mo ad) (bt : BT fm ad) (hg : GI cy M f0) (mx : x ∈ M) (ox : Ob f0 x 7)
    (e : (r = -1 ∧ 144 < fI f0 x 1 ∧ f1 = f0) ∨ (fI f0 x 1 ≤ 144 ∧ r = fI f0 x 1 + 24 ∧ fI f1 x 1 = fI f0 x 1 + 24 ∧ FT f0 f1 x tp ∧ TPc (aI f0 tp) (aI f1 tp) a b c (fI f0 x 1)))
    (k : Kp mo ad [8] [9, 10] fm f2) (q : (r' = -1 ∧ 144 < fI fm mo 9 ∧ fI f2 mo 9 = fI fm mo 9 ∧ (∀ i : Int, aI f2 (ad 8) i = aI fm (ad 8) i)) ∨ (fI fm mo 9 ≤ 144 ∧ r' = fI fm mo 9 + 24 ∧ fI f2 mo 9 = fI fm mo 9 + 24 ∧ TPc (aI fm (ad 8)) (aI f2 (ad 8)) a' b' c' (fI fm mo 9))) (ea : a = a') (eb : b = b') (ec : c = c') : CRO f1 x f2 mo ad ∧ r = r' := by
  subst ea
  subst eb
  subst ec
  have hn : fI f0 x 1 = fI fm mo 9 := cw.2.2.2.2.2.2
  have ht := cw.2.2.2.2.2.1
  have eo : ∀ {f : Nat → va_E}, OXm f rq rr fm mo ad → OXm f rq rr f2 mo ad := fun h => OX.eq h (fun y => k.1 4 rfl (by decide) y) (k.2 5 (by decide)) (fun j y => k.1 6 rfl (by decide) _) (fun j => k.1 7 rfl (by decide) j)
  rcases e with ⟨e1, e2, e3⟩ | ⟨e1, e2, e3, e4, e5⟩ <;> rcases q with ⟨d1, d2, d3, d4⟩ | ⟨d1, d2, d3, d4⟩
  · rw [e3]
    exact ⟨⟨⟨rq, rr, im, tp, CW.to cw (fun y => k.1 4 rfl (by decide) y) (k.2 5 (by decide)) (fun j y => k.1 6 rfl (by decide) _) (fun j => k.1 7 rfl (by decide) j) d4 d3, eo o⟩, fun i i0 i1 => by rw [d4 i]; exact bt i i0 i1⟩, by omega⟩
  · exact absurd e2 (by omega)
  · exact absurd d2 (by omega)
  · rw [hn] at e5
    have both := e5.both d4 (fun i i0 i1 => ⟨ht i i0 i1, bt i i0 i1⟩)
    exact ⟨⟨⟨rq, rr, im, tp, CW.to (CW.fed (T' := aI f2 (ad 8)) cw hg mx ox e4 (fun i i0 i1 => (both i i0 i1).1) e3) (fun y => k.1 4 rfl (by decide) y) (k.2 5 (by decide)) (fun j y => k.1 6 rfl (by decide) _) (fun j => k.1 7 rfl (by decide) j) (fun _ => rfl) (by omega), eo (OX.own o cw hg mx ox (fun y _ h h2 => e4.1 y h h2))⟩, fun i i0 i1 => (both i i0 i1).2⟩, by omega⟩
theorem CRO.book {cy : Cy} {M M1 : List Nat} {f0 f1 fm f2 : Nat → va_E} {x mo im tp : Nat} {ad : Nat → Nat} {rq : Int → Nat} {rr : Int → Int → Nat} {r r' : Int} (cw : CWm f0 x rq rr im tp fm mo ad) (o : OXm f0 rq rr fm mo ad) (bt : BT fm ad) (hg : GI cy M f0) (hsb : ∀ y ∈ M, y ∈ M1) (hg1 : GI cy M1 f1) (al : Al cy M f0 f1) (mx : x ∈ M) (ox : Ob f0 x 7)
    (e : (r = -1 ∧ (160 < fI f0 x 1 ∨ 12 ≤ (fI fm mo 5)) ∧ (∀ y ∈ M, y ≠ x → f1 y = f0 y) ∧ (∀ k : Nat, k ≠ 1 → fV f1 x k = fV f0 x k) ∧ fI f1 x 1 = 0) ∨ (fI f0 x 1 ≤ 160 ∧ (fI fm mo 5) < 12 ∧ bkF (Tc fm ad) (fI f0 x 1) ≠ 0 ∧ r = -2 - bkF (Tc fm ad) (fI f0 x 1) ∧ (∀ y ∈ M, y ≠ x → y ≠ rq (fI fm mo 5) → f1 y = f0 y) ∧ (∀ k : Nat, k ≠ 1 → fV f1 x k = fV f0 x k) ∧ fI f1 x 1 = 0 ∧ FN f0 f1 (rq (fI fm mo 5))) ∨ (fI f0 x 1 ≤ 160 ∧ (fI fm mo 5) < 12 ∧ bkF (Tc fm ad) (fI f0 x 1) = 0 ∧ r = (fI fm mo 5) ∧ ∃ (sh : Nat) (f9 : Nat → va_E), fR f0 x 2 = some sh ∧ ((∀ y ∈ M, y ≠ x → y ≠ rq (fI fm mo 5) → f9 y = f0 y) ∧ (∀ k : Nat, k ≠ 1 → fV f9 x k = fV f0 x k) ∧ fI f9 x 1 = 0 ∧ FN f0 f9 (rq (fI fm mo 5)) ∧ fI f9 (rq (fI fm mo 5)) 10 = 0) ∧ RB f9 (rq (fI fm mo 5)) (bkW (Tc fm ad) (fI f0 x 1)) 0 ∧ RK f9 f1 sh ∧ fI f1 sh 1 = (fI fm mo 5) + 1))
    (k : Kp mo ad [4, 21] [5, 9, 10, 14, 15, 16, 17, 18, 19, 20, 22] fm f2) (q9 : fI f2 mo 9 = 0) (q : ((r' = -1 ∧ (160 < (fI fm mo 9) ∨ 12 ≤ fI fm mo 5) ∧ fI f2 mo 5 = fI fm mo 5 ∧ (∀ y : Int, 0 ≤ y → y < 44 * fI fm mo 5 → aI f2 (ad 4) y = aI fm (ad 4) y)) ∨ ((fI fm mo 9) ≤ 160 ∧ fI fm mo 5 < 12 ∧ bkF (Tc fm ad) (fI fm mo 9) ≠ 0 ∧ r' = -2 - bkF (Tc fm ad) (fI fm mo 9) ∧ fI f2 mo 5 = fI fm mo 5 ∧ (∀ y : Int, 0 ≤ y → y < 44 * fI fm mo 5 → aI f2 (ad 4) y = aI fm (ad 4) y)) ∨ ((fI fm mo 9) ≤ 160 ∧ fI fm mo 5 < 12 ∧ bkF (Tc fm ad) (fI fm mo 9) = 0 ∧ r' = fI fm mo 5 ∧ fI f2 mo 5 = fI fm mo 5 + 1 ∧ (∀ y : Int, 0 ≤ y → y < 44 * fI fm mo 5 → aI f2 (ad 4) y = aI fm (ad 4) y) ∧ (∀ j : Int, 0 ≤ j → j ≤ 10 → aI f2 (ad 4) (44 * fI fm mo 5 + j) = bkW (Tc fm ad) (fI fm mo 9) j) ∧ aI f2 (ad 4) (44 * fI fm mo 5 + 11) = 0))) : CRO f1 x f2 mo ad ∧ r = r' := by
  have b2 := bt.kp k (by decide)
  have hn : fI f0 x 1 = fI fm mo 9 := cw.2.2.2.2.2.2
  rw [hn] at e
  have go : ∀ {g : Int → Int} {m : Int}, CW f1 x rq rr im tp g m (gIm fm ad) (aI fm (ad 7)) (aI fm (ad 8)) 0 → OX f1 rq rr g m (gIm fm ad) (aI fm (ad 7)) → g = aI f2 (ad 4) → fI f2 mo 5 = m → CRO f1 x f2 mo ad := fun c o h1 h2 => ⟨⟨_, rr, im, tp, CW.to c (fun y => by rw [h1]) h2 (fun j y => k.1 6 rfl (by decide) _) (fun j => k.1 7 rfl (by decide) j) (fun i => k.1 8 rfl (by decide) i) q9, OX.eq o (fun y => by rw [h1]) h2 (fun j y => k.1 6 rfl (by decide) _) (fun j => k.1 7 rfl (by decide) j)⟩, b2⟩
  rcases e with ⟨e1, e2, e3, e4, e5⟩ | ⟨e1, e2, e3, e4, e5, e6, e7, fn⟩ | ⟨e1, e2, e3, e4, sh, f9, a1, ⟨a2, a3, a4, fn, z10⟩, a5, a6, a7⟩
  · have z : r' = -1 ∧ fI f2 mo 5 = fI fm mo 5 ∧ (∀ y : Int, 0 ≤ y → y < 44 * fI fm mo 5 → aI f2 (ad 4) y = aI fm (ad 4) y) := by
      rcases q with ⟨d1, d2, d3, d4⟩ | ⟨d1, d2, d3⟩ | ⟨d1, d2, d3⟩
      · exact ⟨d1, d3, d4⟩
      · exact absurd e2 (by omega)
      · exact absurd e2 (by omega)
    exact ⟨go (CW.cg (g' := aI f2 (ad 4)) (CW.own cw hg mx ox e3 e4 e5) (fun i j i0 i1 j0 j1 => z.2.2 _ (by omega) (by omega))) (OX.gcg (OX.own o cw hg mx ox (fun y h1 h2 _ => e3 y h1 h2)) z.2.2) rfl z.2.1, by omega⟩
  · have z : r' = -2 - bkF (Tc fm ad) (fI fm mo 9) ∧ fI f2 mo 5 = fI fm mo 5 ∧ (∀ y : Int, 0 ≤ y → y < 44 * fI fm mo 5 → aI f2 (ad 4) y = aI fm (ad 4) y) := by
      rcases q with ⟨d1, d2, d3, d4⟩ | ⟨d1, d2, d3, d4, d5, d6⟩ | ⟨d1, d2, d3, d4⟩
      · exact absurd d2 (by omega)
      · exact ⟨d4, d5, d6⟩
      · exact absurd d3 e3
    obtain ⟨k1, k2⟩ := OX.bk cw hg mx ox e2 e5 fn
    exact ⟨go (CW.cg (g' := aI f2 (ad 4)) (CW.unbooked cw hg mx ox al e2 e5 e6 e7) (fun i j i0 i1 j0 j1 => z.2.2 _ (by omega) (by omega))) (OX.gcg (OX.ko o k1 k2) z.2.2) rfl z.2.1, e4.trans z.1.symm⟩
  · rcases q with ⟨d1, d2, d3, d4⟩ | ⟨d1, d2, d3, d4, d5, d6⟩ | ⟨d1, d2, d3, d4, d5, d6, d7, d8⟩
    · exact absurd d2 (by omega)
    · exact absurd e3 d3
    · exact ⟨go (CW.booked (g' := aI f2 (ad 4)) cw hg hsb hg1 mx ox al e2 ⟨sh, f9, a1, ⟨a2, a3, a4⟩, a5, a6, a7⟩ d6 d7) (OX.booked (g' := aI f2 (ad 4)) o cw hg mx ox e2 a2 fn z10 a6 d6 d8) rfl d5, e4.trans d4.symm⟩
/-! ===== drop, move, restore ===== -/
theorem CRO.same {f0 fm f2 : Nat → va_E} {x mo im tp : Nat} {ad : Nat → Nat} {rq : Int → Nat} {rr : Int → Int → Nat} (cw : CWm f0 x rq rr im tp fm mo ad) (o : OXm f0 rq rr fm mo ad) (bt : BT fm ad) (k : Kp mo ad [4, 12, 13] [10] fm f2) (e : ∀ y : Int, aI f2 (ad 4) y = aI fm (ad 4) y) : CRO f0 x f2 mo ad :=
  ⟨⟨rq, rr, im, tp, CW.to cw e (k.2 5 (by decide)) (fun j y => k.1 6 rfl (by decide) _) (fun j => k.1 7 rfl (by decide) j) (fun i => k.1 8 rfl (by decide) i) (k.2 9 (by decide)), OX.eq o e (k.2 5 (by decide)) (fun j y => k.1 6 rfl (by decide) _) (fun j => k.1 7 rfl (by decide) j)⟩, bt.kp k (by decide)⟩
theorem CRO.odd1 {cy : Cy} {M : List Nat} {f0 f1 fm f2 : Nat → va_E} {x mo im tp : Nat} {ad : Nat → Nat} {rq : Int → Nat} {rr : Int → Int → Nat} {O : Int → Int} {c : Int} (cw : CWm f0 x rq rr im tp fm mo ad) (o : OXm f0 rq rr fm mo ad) (bt : BT fm ad) (hg : GI cy M f0) (mx : x ∈ M) (ox : Ob f0 x 7) (mv2 : MV f2 mo ad) (k : Kp mo ad [4, 12, 13] [10] fm f2) (c0 : 0 ≤ c) (c1 : c < fI fm mo 5) (z : Eo f0 f1 (rq c)) (oc : OC f1 (rq c) O) (om : OM (aI f2 (ad 4)) (44 * c) O) (hk : OKk (aI fm (ad 4)) (44 * c) O) (w : ∀ y : Int, 0 ≤ y → (y < 44 * c + 11 ∨ 44 * c + 43 < y) → aI f2 (ad 4) y = aI fm (ad 4) y) : CRO f1 x f2 mo ad := by
  obtain ⟨m0, m1, mr, ho, hi⟩ := CW.rqs cw hg mx ox
  have oc0 := ho c c0 (by omega)
  have k5 := k.2 5 (by decide)
  have b := (mv2.b11 c0 (by omega)).1
  have cw1 : CW f1 x rq rr im tp (aI f2 (ad 4)) (fI fm mo 5) (gIm fm ad) (aI fm (ad 7)) (aI fm (ad 8)) (fI fm mo 9) := CW.cg (CW.ef cw hg mx ox (z.ef oc0 (AO.of hg (mr c c0 (by omega)) oc0))) (fun i j i0 i1 j0 j1 => w _ (by omega) (by omega))
  have o1 := OX.odd (g' := aI f2 (ad 4)) o m1 hi (fun j j0 j1 nj => ⟨(CW.rrs cw hg mx ox j0 j1 nj).1, (CW.rrs cw hg mx ox j0 j1 nj).2.2.2⟩) c0 c1 z oc om (hk.cg (fun j j0 j1 => w _ (by omega) (by omega))) b.1 b.2 w
  exact ⟨⟨rq, rr, im, tp, CW.to cw1 (fun _ => rfl) k5 (fun j y => k.1 6 rfl (by decide) _) (fun j => k.1 7 rfl (by decide) j) (fun i => k.1 8 rfl (by decide) i) (k.2 9 (by decide)), OX.eq o1 (fun _ => rfl) k5 (fun j y => k.1 6 rfl (by decide) _) (fun j => k.1 7 rfl (by decide) j)⟩, bt.kp k (by decide)⟩
theorem OX.cnt {cy : Cy} {M : List Nat} {f0 fm : Nat → va_E} {x mo im tp : Nat} {ad : Nat → Nat} {rq : Int → Nat} {rr : Int → Int → Nat} {O : Int → Int} {c : Int} (cw : CWm f0 x rq rr im tp fm mo ad) (hg : GI cy M f0) (mx : x ∈ M) (ox : Ob f0 x 7) (hO : 0 ≤ c ∧ c < fI fm mo 5 → OC f0 (rq c) O ∧ OM (aI fm (ad 4)) (44 * c) O ∧ OKk (aI fm (ad 4)) (44 * c) O ∧ 0 ≤ aI fm (ad 4) (44 * c + 11) ∧ aI fm (ad 4) (44 * c + 11) ≤ 16) (h : 0 ≤ c ∧ c < fI fm mo 5) : fI f0 (rq c) 10 = aI fm (ad 4) (44 * c + 11) := by
  obtain ⟨m0, m1, mr, ho, hi⟩ := CW.rqs cw hg mx ox
  obtain ⟨o1, o2, o3, o4, o5⟩ := hO h
  have b : 0 ≤ fI f0 (rq c) 10 ∧ fI f0 (rq c) 10 ≤ 16 := hg.1 _ (mr c h.1 (by omega)) 0 10 (ho c h.1 (by omega))
  exact oo_n o1 o2 o3.kb o4 b.1
theorem CRO.drop {cy : Cy} {M : List Nat} {f0 f1 fm f2 : Nat → va_E} {x mo im tp : Nat} {ad : Nat → Nat} {rq : Int → Nat} {rr : Int → Int → Nat} {O : Int → Int} {r r' c c' d d' : Int} (cw : CWm f0 x rq rr im tp fm mo ad) (o : OXm f0 rq rr fm mo ad) (bt : BT fm ad) (hg : GI cy M f0) (mx : x ∈ M) (ox : Ob f0 x 7) (mv2 : MV f2 mo ad) (hO : 0 ≤ c ∧ c < fI fm mo 5 → OC f0 (rq c) O ∧ OM (aI fm (ad 4)) (44 * c) O ∧ OKk (aI fm (ad 4)) (44 * c) O ∧ 0 ≤ aI fm (ad 4) (44 * c + 11) ∧ aI fm (ad 4) (44 * c + 11) ≤ 16)
    (e : (r = 0 ∧ (¬ (0 ≤ c ∧ c < (fI fm mo 5)) ∨ ¬ (0 ≤ d ∧ d ≤ 36524 ∧ KG (aI fm (ad 4)) (44 * c) d) ∨ O d = -1 ∨ (O d = -2 ∧ 16 ≤ fI f0 (rq c) 10)) ∧ f1 = f0) ∨ (r = 1 ∧ (0 ≤ c ∧ c < (fI fm mo 5)) ∧ (0 ≤ d ∧ d ≤ 36524 ∧ KG (aI fm (ad 4)) (44 * c) d) ∧ O d ≠ -1 ∧ Eo f0 f1 (rq c) ∧ OC f1 (rq c) (upO O d (-1)) ∧ ((O d ≠ -2 ∧ fI f1 (rq c) 10 = fI f0 (rq c) 10) ∨ (O d = -2 ∧ fI f0 (rq c) 10 < 16 ∧ fI f1 (rq c) 10 = fI f0 (rq c) 10 + 1))))
    (k : Kp mo ad [4, 12, 13] [10] fm f2) (q : ((r' = 0 ∧ (¬ (0 ≤ c' ∧ c' < fI fm mo 5) ∨ ¬ (0 ≤ d' ∧ d' ≤ 36524 ∧ KG (aI fm (ad 4)) (44 * c') d') ∨ O d' = -1 ∨ (O d' = -2 ∧ 16 ≤ aI fm (ad 4) (44 * c' + 11))) ∧ (∀ y : Int, aI f2 (ad 4) y = aI fm (ad 4) y)) ∨ (r' = 1 ∧ (0 ≤ c' ∧ c' < fI fm mo 5) ∧ (0 ≤ d' ∧ d' ≤ 36524 ∧ KG (aI fm (ad 4)) (44 * c') d') ∧ O d' ≠ -1 ∧ OM (aI f2 (ad 4)) (44 * c') (upO O d' (-1)) ∧ ((O d' ≠ -2 ∧ aI f2 (ad 4) (44 * c' + 11) = aI fm (ad 4) (44 * c' + 11)) ∨ (O d' = -2 ∧ aI fm (ad 4) (44 * c' + 11) < 16 ∧ aI f2 (ad 4) (44 * c' + 11) = aI fm (ad 4) (44 * c' + 11) + 1)) ∧ (∀ y : Int, 0 ≤ y → (y < 44 * c' + 11 ∨ 44 * c' + 43 < y) → aI f2 (ad 4) y = aI fm (ad 4) y)))) (ec : c = c') (ed : d = d') : CRO f1 x f2 mo ad ∧ r = r' := by
  subst ec
  subst ed
  have cnt := OX.cnt cw hg mx ox hO
  rcases e with ⟨e1, e2, e3⟩ | ⟨e1, e2, e3, e4, e5, e6, e7⟩ <;> rcases q with ⟨d1, d2, d3⟩ | ⟨d1, d2, d3, d4, d5, d6, d7⟩
  · rw [e3]
    exact ⟨CRO.same cw o bt k d3, by omega⟩
  · have n := cnt d2
    rcases e2 with z | z | z | z
    · exact absurd d2 z
    · exact absurd d3 z
    · omega
    · omega
  · have n := cnt e2
    rcases d2 with z | z | z | z
    · exact absurd e2 z
    · exact absurd e3 z
    · omega
    · omega
  · obtain ⟨o1, o2, o3, o4, o5⟩ := hO e2
    exact ⟨CRO.odd1 cw o bt hg mx ox mv2 k e2.1 e2.2 e5 e6 d5 (o3.up e3.2.2 e3.1 e3.2.1 (by omega)) d7, by omega⟩
theorem CRO.move {cy : Cy} {M : List Nat} {f0 f1 fm f2 : Nat → va_E} {x mo im tp : Nat} {ad : Nat → Nat} {rq : Int → Nat} {rr : Int → Int → Nat} {O : Int → Int} {r r' c c' d d' u u' : Int} (cw : CWm f0 x rq rr im tp fm mo ad) (o : OXm f0 rq rr fm mo ad) (bt : BT fm ad) (hg : GI cy M f0) (mx : x ∈ M) (ox : Ob f0 x 7) (mv2 : MV f2 mo ad) (hO : 0 ≤ c ∧ c < fI fm mo 5 → OC f0 (rq c) O ∧ OM (aI fm (ad 4)) (44 * c) O ∧ OKk (aI fm (ad 4)) (44 * c) O ∧ 0 ≤ aI fm (ad 4) (44 * c + 11) ∧ aI fm (ad 4) (44 * c + 11) ≤ 16)
    (e : (r = 0 ∧ (¬ (0 ≤ c ∧ c < (fI fm mo 5)) ∨ ¬ (0 ≤ d ∧ d ≤ 36524 ∧ KG (aI fm (ad 4)) (44 * c) d) ∨ (u < 0 ∨ 52595999 < u) ∨ (O d = -2 ∧ 16 ≤ fI f0 (rq c) 10)) ∧ f1 = f0) ∨ (r = 1 ∧ (0 ≤ c ∧ c < (fI fm mo 5)) ∧ (0 ≤ d ∧ d ≤ 36524 ∧ KG (aI fm (ad 4)) (44 * c) d) ∧ (0 ≤ u ∧ u ≤ 52595999) ∧ Eo f0 f1 (rq c) ∧ OC f1 (rq c) (upO O d u) ∧ ((O d ≠ -2 ∧ fI f1 (rq c) 10 = fI f0 (rq c) 10) ∨ (O d = -2 ∧ fI f0 (rq c) 10 < 16 ∧ fI f1 (rq c) 10 = fI f0 (rq c) 10 + 1))))
    (k : Kp mo ad [4, 12, 13] [10] fm f2) (q : ((r' = 0 ∧ (¬ (0 ≤ c' ∧ c' < fI fm mo 5) ∨ ¬ (0 ≤ d' ∧ d' ≤ 36524 ∧ KG (aI fm (ad 4)) (44 * c') d') ∨ (u' < 0 ∨ 52595999 < u') ∨ (O d' = -2 ∧ 16 ≤ aI fm (ad 4) (44 * c' + 11))) ∧ (∀ y : Int, aI f2 (ad 4) y = aI fm (ad 4) y)) ∨ (r' = 1 ∧ (0 ≤ c' ∧ c' < fI fm mo 5) ∧ (0 ≤ d' ∧ d' ≤ 36524 ∧ KG (aI fm (ad 4)) (44 * c') d') ∧ (0 ≤ u' ∧ u' ≤ 52595999) ∧ OM (aI f2 (ad 4)) (44 * c') (upO O d' u') ∧ ((O d' ≠ -2 ∧ aI f2 (ad 4) (44 * c' + 11) = aI fm (ad 4) (44 * c' + 11)) ∨ (O d' = -2 ∧ aI fm (ad 4) (44 * c' + 11) < 16 ∧ aI f2 (ad 4) (44 * c' + 11) = aI fm (ad 4) (44 * c' + 11) + 1)) ∧ (∀ y : Int, 0 ≤ y → (y < 44 * c' + 11 ∨ 44 * c' + 43 < y) → aI f2 (ad 4) y = aI fm (ad 4) y)))) (ec : c = c') (ed : d = d') (eu : u = u') : CRO f1 x f2 mo ad ∧ r = r' := by
  subst ec
  subst ed
  subst eu
  have cnt := OX.cnt cw hg mx ox hO
  rcases e with ⟨e1, e2, e3⟩ | ⟨e1, e2, e3, e4, e5, e6, e7⟩ <;> rcases q with ⟨d1, d2, d3⟩ | ⟨d1, d2, d3, d4, d5, d6, d7⟩
  · rw [e3]
    exact ⟨CRO.same cw o bt k d3, by omega⟩
  · have n := cnt d2
    rcases e2 with z | z | z | z
    · exact absurd d2 z
    · exact absurd d3 z
    · omega
    · omega
  · have n := cnt e2
    rcases d2 with z | z | z | z
    · exact absurd e2 z
    · exact absurd e3 z
    · omega
    · omega
  · obtain ⟨o1, o2, o3, o4, o5⟩ := hO e2
    exact ⟨CRO.odd1 cw o bt hg mx ox mv2 k e2.1 e2.2 e5 e6 d5 (o3.up e3.2.2 e3.1 e3.2.1 e4.2) d7, by omega⟩
theorem CRO.restore {cy : Cy} {M : List Nat} {f0 f1 fm f2 : Nat → va_E} {x mo im tp : Nat} {ad : Nat → Nat} {rq : Int → Nat} {rr : Int → Int → Nat} {O : Int → Int} {r r' c c' d d' : Int} (cw : CWm f0 x rq rr im tp fm mo ad) (o : OXm f0 rq rr fm mo ad) (bt : BT fm ad) (hg : GI cy M f0) (mx : x ∈ M) (ox : Ob f0 x 7) (mv2 : MV f2 mo ad) (hO : 0 ≤ c ∧ c < fI fm mo 5 → OC f0 (rq c) O ∧ OM (aI fm (ad 4)) (44 * c) O ∧ OKk (aI fm (ad 4)) (44 * c) O ∧ 0 ≤ aI fm (ad 4) (44 * c + 11) ∧ aI fm (ad 4) (44 * c + 11) ≤ 16)
    (e : (r = -1 ∧ (¬ (0 ≤ c ∧ c < (fI fm mo 5)) ∨ ¬ (0 ≤ d ∧ d ≤ 36524 ∧ KG (aI fm (ad 4)) (44 * c) d)) ∧ f1 = f0) ∨ (r = 0 ∧ (0 ≤ c ∧ c < (fI fm mo 5)) ∧ (0 ≤ d ∧ d ≤ 36524 ∧ KG (aI fm (ad 4)) (44 * c) d) ∧ O d = -2 ∧ f1 = f0) ∨ ((0 ≤ c ∧ c < (fI fm mo 5)) ∧ (0 ≤ d ∧ d ≤ 36524 ∧ KG (aI fm (ad 4)) (44 * c) d) ∧ ((r = 1 ∧ O d = -1) ∨ (r = 2 ∧ 0 ≤ O d)) ∧ Eo f0 f1 (rq c) ∧ OC f1 (rq c) (upO O d (-2)) ∧ fI f1 (rq c) 10 = fI f0 (rq c) 10 - 1))
    (k : Kp mo ad [4, 12, 13] [10] fm f2) (q : ((r' = -1 ∧ (¬ (0 ≤ c' ∧ c' < fI fm mo 5) ∨ ¬ (0 ≤ d' ∧ d' ≤ 36524 ∧ KG (aI fm (ad 4)) (44 * c') d')) ∧ (∀ y : Int, aI f2 (ad 4) y = aI fm (ad 4) y)) ∨ (r' = 0 ∧ (0 ≤ c' ∧ c' < fI fm mo 5) ∧ (0 ≤ d' ∧ d' ≤ 36524 ∧ KG (aI fm (ad 4)) (44 * c') d') ∧ O d' = -2 ∧ (∀ y : Int, aI f2 (ad 4) y = aI fm (ad 4) y)) ∨ ((0 ≤ c' ∧ c' < fI fm mo 5) ∧ (0 ≤ d' ∧ d' ≤ 36524 ∧ KG (aI fm (ad 4)) (44 * c') d') ∧ ((r' = 1 ∧ O d' = -1) ∨ (r' = 2 ∧ 0 ≤ O d')) ∧ OM (aI f2 (ad 4)) (44 * c') (upO O d' (-2)) ∧ aI f2 (ad 4) (44 * c' + 11) = aI fm (ad 4) (44 * c' + 11) - 1 ∧ (∀ y : Int, 0 ≤ y → (y < 44 * c' + 11 ∨ 44 * c' + 43 < y) → aI f2 (ad 4) y = aI fm (ad 4) y)))) (ec : c = c') (ed : d = d') : CRO f1 x f2 mo ad ∧ r = r' := by
  subst ec
  subst ed
  rcases e with ⟨e1, e2, e3⟩ | ⟨e1, e2, e3, e4, e5⟩ | ⟨e1, e2, e3, e4, e5, e6⟩ <;> rcases q with ⟨d1, d2, d3⟩ | ⟨d1, d2, d3, d4, d5⟩ | ⟨d1, d2, d3, d4, d5, d6⟩
  · rw [e3]
    exact ⟨CRO.same cw o bt k d3, by omega⟩
  · rcases e2 with z | z
    · exact absurd d2 z
    · exact absurd d3 z
  · rcases e2 with z | z
    · exact absurd d1 z
    · exact absurd d2 z
  · rcases d2 with z | z
    · exact absurd e2 z
    · exact absurd e3 z
  · rw [e5]
    exact ⟨CRO.same cw o bt k d5, by omega⟩
  · omega
  · rcases d2 with z | z
    · exact absurd e1 z
    · exact absurd e2 z
  · omega
  · obtain ⟨o1, o2, o3, o4, o5⟩ := hO e1
    exact ⟨CRO.odd1 cw o bt hg mx ox mv2 k e1.1 e1.2 e4 e5 d4 (o3.up e2.2.2 e2.1 e2.2.1 (by omega)) d6, by omega⟩
/-! ===== the start ===== -/
theorem CRO.start {f fm : Nat → va_E} {x mo sh im tp : Nat} {ad : Nat → Nat} {rq : Int → Nat} (e2 : fR f x 2 = some sh) (sf : SF f sh rq) (z : fI f sh 1 = 0) (ars : ARS f rq) (e3 : fR f x 3 = some im) (hn : ∀ j : Int, aR f im j = none) (e0 : fR f x 0 = some tp) (ht : ∀ j : Int, aI f tp j = 0) (e1 : fI f x 1 = 0) (m5 : fI fm mo 5 = 0) (m9 : fI fm mo 9 = 0) (m70 : aI fm (ad 7) 0 = -1) (m71 : aI fm (ad 7) 1 = -1) (m8 : ∀ i : Int, aI fm (ad 8) i = 0) : CRO f x fm mo ad := by
  have m7 : ∀ j : Int, 0 ≤ j → j ≤ 1 → aI fm (ad 7) j = -1 := fun j j0 j1 => by rcases (show j = 0 ∨ j = 1 by omega) with rfl | rfl <;> assumption
  refine ⟨⟨rq, fun _ => rq, im, tp, ⟨⟨sh, e2, ⟨sf, z.trans m5.symm, fun i i0 i1 => ?_⟩, by omega, by omega⟩, e3, fun j j0 j1 => Or.inl ⟨m7 j j0 j1, hn j⟩, fun j k j0 j1 _ _ _ n0 _ => ?_, e0, fun i _ _ => (ht i).trans (m8 i).symm, e1.trans m9.symm⟩, ⟨ars, fun j j0 j1 n => ?_, fun j k j0 j1 _ _ _ n _ => ?_⟩, fun i i0 i1 => ?_, fun j j0 j1 n => ?_⟩, fun i _ _ => by rw [m8 i]; omega⟩
  · exact absurd i1 (by omega)
  · exact absurd n0 (by rw [m7 j j0 j1]; omega)
  · exact absurd n (by rw [m7 j j0 j1]; omega)
  · exact absurd n (by rw [m7 j j0 j1]; omega)
  · exact absurd i1 (by omega)
  · exact absurd n (by rw [m7 j j0 j1]; omega)
