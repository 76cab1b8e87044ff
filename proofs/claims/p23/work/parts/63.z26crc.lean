/-! ===== CR: the class's BookIndex at x speaks of the reference at mo ===== -/
def gIm (fm : Nat → va_E) (ad : Nat → Nat) : Int → Int → Int := fun j y => aI fm (ad 6) (528 * j + y)
def CWm (f : Nat → va_E) (x : Nat) (rq : Int → Nat) (rr : Int → Int → Nat) (im tp : Nat) (fm : Nat → va_E) (mo : Nat) (ad : Nat → Nat) : Prop := CW f x rq rr im tp (aI fm (ad 4)) (fI fm mo 5) (gIm fm ad) (aI fm (ad 7)) (aI fm (ad 8)) (fI fm mo 9)
def BT (fm : Nat → va_E) (ad : Nat → Nat) : Prop := ∀ i : Int, 0 ≤ i → i < 168 → 0 ≤ aI fm (ad 8) i ∧ aI fm (ad 8) i ≤ 255
def CR (f : Nat → va_E) (x : Nat) (fm : Nat → va_E) (mo : Nat) (ad : Nat → Nat) : Prop := (∃ (rq : Int → Nat) (rr : Int → Int → Nat) (im tp : Nat), CWm f x rq rr im tp fm mo ad) ∧ BT fm ad
theorem CW.to {f : Nat → va_E} {x im tp : Nat} {rq : Int → Nat} {rr : Int → Int → Nat} {g g' N N' T T' : Int → Int} {G G' : Int → Int → Int} {m m' n n' : Int} (c : CW f x rq rr im tp g m G N T n) (eg : ∀ y : Int, g' y = g y) (em : m' = m) (eG : ∀ j y : Int, G' j y = G j y) (eN : ∀ j : Int, N' j = N j) (eT : ∀ i : Int, T' i = T i) (en : n' = n) : CW f x rq rr im tp g' m' G' N' T' n' := by
  have a1 : g' = g := funext eg
  have a2 : G' = G := funext fun j => funext fun y => eG j y
  have a3 : N' = N := funext eN
  have a4 : T' = T := funext eT
  rw [a1, a2, a3, a4, em, en]
  exact c
theorem CW.cg {f : Nat → va_E} {x im tp : Nat} {rq : Int → Nat} {rr : Int → Int → Nat} {g g' N T : Int → Int} {G : Int → Int → Int} {m n : Int} (c : CW f x rq rr im tp g m G N T n) (e : ∀ i j : Int, 0 ≤ i → i < m → 0 ≤ j → j ≤ 10 → g' (44 * i + j) = g (44 * i + j)) : CW f x rq rr im tp g' m G N T n := by
  obtain ⟨⟨sh, es, sr, m0, m1⟩, h⟩ := c
  exact ⟨⟨sh, es, ⟨sr.1, sr.2.1, fun i i0 i1 => (sr.2.2 i i0 i1).cg (fun j j0 j1 => e i j i0 i1 j0 j1)⟩, m0, m1⟩, h⟩
theorem BT.kp {fm f1 : Nat → va_E} {mo : Nat} {ad : Nat → Nat} {rs fs : List Nat} (h : BT fm ad) (k : Kp mo ad rs fs fm f1) (h8 : 8 ∉ rs) : BT f1 ad := fun i i0 i1 => by rw [k.1 8 rfl h8 i]; exact h i i0 i1
theorem CR.kp {f fm f1 : Nat → va_E} {x mo : Nat} {ad : Nat → Nat} {rs fs : List Nat} (h : CR f x fm mo ad) (k : Kp mo ad rs fs fm f1) (h4 : 4 ∉ rs) (h6 : 6 ∉ rs) (h7 : 7 ∉ rs) (h8 : 8 ∉ rs) (h5 : 5 ∉ fs) (h9 : 9 ∉ fs) : CR f x f1 mo ad := by
  obtain ⟨⟨rq, rr, im, tp, cw⟩, bt⟩ := h
  exact ⟨⟨rq, rr, im, tp, CW.to cw (fun y => k.1 4 rfl h4 y) (k.2 5 h5) (fun j y => k.1 6 rfl h6 _) (fun j => k.1 7 rfl h7 j) (fun i => k.1 8 rfl h8 i) (k.2 9 h9)⟩, bt.kp k h8⟩
theorem CR.ef {cy : Cy} {M : List Nat} {f g fm : Nat → va_E} {x mo : Nat} {ad : Nat → Nat} (h : CR f x fm mo ad) (hg : GI cy M f) (mx : x ∈ M) (ox : Ob f x 7) (z : Ef cy f g) : CR g x fm mo ad := by
  obtain ⟨⟨rq, rr, im, tp, cw⟩, bt⟩ := h
  exact ⟨⟨rq, rr, im, tp, CW.ef cw hg mx ox z⟩, bt⟩
theorem CR.off {cy : Cy} {M : List Nat} {f g fm : Nat → va_E} {x mo : Nat} {ad : Nat → Nat} (h : CR f x fm mo ad) (hg : GI cy M f) (mx : x ∈ M) (ox : Ob f x 7) (e : ∀ y ∈ M, g y = f y) : CR g x fm mo ad := by
  obtain ⟨⟨rq, rr, im, tp, cw⟩, bt⟩ := h
  exact ⟨⟨rq, rr, im, tp, CW.off cw hg mx ox e⟩, bt⟩
/-- what is dropped or moved changes no words -/
theorem CR.odd {f fm f1 : Nat → va_E} {x mo : Nat} {ad : Nat → Nat} {c : Int} (h : CR f x fm mo ad) (k : Kp mo ad [4, 12, 13] [10] fm f1) (e : ∀ y : Int, 0 ≤ y → (y < 44 * c + 11 ∨ 44 * c + 43 < y) → aI f1 (ad 4) y = aI fm (ad 4) y) : CR f x f1 mo ad := by
  obtain ⟨⟨rq, rr, im, tp, cw⟩, bt⟩ := h
  have c1 : CW f x rq rr im tp (aI f1 (ad 4)) (fI fm mo 5) (gIm fm ad) (aI fm (ad 7)) (aI fm (ad 8)) (fI fm mo 9) := CW.cg cw (fun i j i0 i1 j0 j1 => e _ (by omega) (by omega))
  exact ⟨⟨rq, rr, im, tp, c1.to (fun _ => rfl) (k.2 5 (by decide)) (fun j y => k.1 6 rfl (by decide) _) (fun j => k.1 7 rfl (by decide) j) (fun i => k.1 8 rfl (by decide) i) (k.2 9 (by decide))⟩, bt.kp k (by decide)⟩
theorem CWm.mok {f fm : Nat → va_E} {x mo im tp : Nat} {ad : Nat → Nat} {rq : Int → Nat} {rr : Int → Int → Nat} (c : CWm f x rq rr im tp fm mo ad) : MOk fm mo ad := by
  intro b b0 b1
  obtain ⟨sh, es, sr, m0, m1⟩ := c.1
  obtain ⟨r, -, rk⟩ := (sr.2.2 b b0 b1).rule
  exact rk.words
theorem CWm.u8 {f fm : Nat → va_E} {x mo im tp : Nat} {ad : Nat → Nat} {rq : Int → Nat} {rr : Int → Int → Nat} {b : Int} (c : CWm f x rq rr im tp fm mo ad) (b0 : 0 ≤ b) (b1 : b < fI fm mo 5) : -1 ≤ aI fm (ad 4) (44 * b + 8) := by
  obtain ⟨sh, es, sr, m0, m1⟩ := c.1
  have rb := sr.2.2 b b0 b1
  obtain ⟨r, -, rk⟩ := rb.rule
  have st := rk.st
  have gb := rb.1.2.2.2.2.1
  omega
/-! ===== both answer alike, and the relation holds behind ===== -/
theorem CR.cancel {cy : Cy} {M : List Nat} {f0 f1 fm f2 : Nat → va_E} {x mo im tp : Nat} {ad : Nat → Nat} {rq : Int → Nat} {rr : Int → Int → Nat} {r r' c c' : Int} (cw : CWm f0 x rq rr im tp fm mo ad) (bt : BT fm ad) (hg : GI cy M f0) (mx : x ∈ M) (ox : Ob f0 x 7) (hx : Ex cy f0 f1)
    (e : (r = 0 ∧ (c < 0 ∨ fI fm mo 5 ≤ c) ∧ f1 = f0) ∨ (r = 1 ∧ 0 ≤ c ∧ c < fI fm mo 5 ∧ ∃ sh ar : Nat, fR f0 x 2 = some sh ∧ fR f0 sh 0 = some ar ∧ RM f0 f1 sh ar ∧ RR f1 ar (rmv rq c (fI fm mo 5 - 1)) ∧ fI f1 sh 1 = fI fm mo 5 - 1))
    (k : Kp mo ad [4] [5, 10] fm f2) (d : (r' = 0 ∧ (c' < 0 ∨ fI fm mo 5 ≤ c') ∧ fI f2 mo 5 = fI fm mo 5 ∧ ∀ y : Int, aI f2 (ad 4) y = aI fm (ad 4) y) ∨ (r' = 1 ∧ 0 ≤ c' ∧ c' < fI fm mo 5 ∧ fI f2 mo 5 = fI fm mo 5 - 1 ∧ (∀ y : Int, 0 ≤ y → y < 44 * c' → aI f2 (ad 4) y = aI fm (ad 4) y) ∧ (∀ y : Int, 44 * c' ≤ y → y < 44 * (fI fm mo 5 - 1) → aI f2 (ad 4) y = aI fm (ad 4) (y + 44)))) (ec : c = c') : CR f1 x f2 mo ad ∧ r = r' := by
  subst ec
  have b2 := bt.kp k (by decide)
  rcases e with ⟨e1, e2, e3⟩ | ⟨e1, e2, e3, e4⟩ <;> rcases d with ⟨d1, d2, d3, d4⟩ | ⟨d1, d2, d3, d4, d5, d6⟩
  · rw [e3]
    exact ⟨⟨⟨rq, rr, im, tp, CW.to cw d4 d3 (fun j y => k.1 6 rfl (by decide) _) (fun j => k.1 7 rfl (by decide) j) (fun i => k.1 8 rfl (by decide) i) (k.2 9 (by decide))⟩, b2⟩, by omega⟩
  · exact absurd d2 (by omega)
  · exact absurd e2 (by omega)
  · exact ⟨⟨⟨_, rr, im, tp, CW.to (CW.cancel cw hg mx ox hx e2 e3 e4 d5 d6) (fun _ => rfl) d4 (fun j y => k.1 6 rfl (by decide) _) (fun j => k.1 7 rfl (by decide) j) (fun i => k.1 8 rfl (by decide) i) (k.2 9 (by decide))⟩, b2⟩, by omega⟩
theorem CR.split {cy : Cy} {M : List Nat} {f0 f1 fm f2 : Nat → va_E} {x mo im tp : Nat} {ad : Nat → Nat} {rq : Int → Nat} {rr : Int → Int → Nat} {r r' c c' d d' : Int} (cw : CWm f0 x rq rr im tp fm mo ad) (bt : BT fm ad) (hg : GI cy M f0) (hg1 : GI cy M f1) (mx : x ∈ M) (ox : Ob f0 x 7) (hx : Ex cy f0 f1)
    (e : (r = -1 ∧ (c < 0 ∨ fI fm mo 5 ≤ c ∨ d < 0 ∨ 36524 < d ∨ 12 ≤ fI fm mo 5 ∨ cn (KG (aI fm (ad 4)) (44 * c)) 0 d = 0 ∨ cn (KG (aI fm (ad 4)) (44 * c)) d 36525 = 0) ∧ f1 = f0) ∨ (r = fI fm mo 5 ∧ 0 ≤ c ∧ c < fI fm mo 5 ∧ 0 ≤ d ∧ d ≤ 36524 ∧ fI fm mo 5 < 12 ∧ cn (KG (aI fm (ad 4)) (44 * c)) 0 d ≠ 0 ∧ cn (KG (aI fm (ad 4)) (44 * c)) d 36525 ≠ 0 ∧ ∃ (sh : Nat) (f9 : Nat → va_E), fR f0 x 2 = some sh ∧ Fo (fun y => y = rq c ∨ y = rq (fI fm mo 5)) cy f0 f9 ∧ Fr0 f0 f9 ∧ RB f9 (rq c) (HWd (aI fm (ad 4)) (44 * c) d) (44 * c) ∧ RB f9 (rq (fI fm mo 5)) (TWd (aI fm (ad 4)) (44 * c) d) (44 * c) ∧ RK f9 f1 sh ∧ fI f1 sh 1 = fI fm mo 5 + 1))
    (k : Kp mo ad [4, 12, 13] [5, 10] fm f2) (q : (r' = -1 ∧ (c' < 0 ∨ fI fm mo 5 ≤ c' ∨ d' < 0 ∨ 36524 < d' ∨ 12 ≤ fI fm mo 5 ∨ cn (KG (aI fm (ad 4)) (44 * c')) 0 d' = 0 ∨ cn (KG (aI fm (ad 4)) (44 * c')) d' 36525 = 0) ∧ fI f2 mo 5 = fI fm mo 5 ∧ ∀ y : Int, aI f2 (ad 4) y = aI fm (ad 4) y) ∨ (r' = fI fm mo 5 ∧ 0 ≤ c' ∧ c' < fI fm mo 5 ∧ 0 ≤ d' ∧ d' ≤ 36524 ∧ fI fm mo 5 < 12 ∧ cn (KG (aI fm (ad 4)) (44 * c')) 0 d' ≠ 0 ∧ cn (KG (aI fm (ad 4)) (44 * c')) d' 36525 ≠ 0 ∧ fI f2 mo 5 = fI fm mo 5 + 1 ∧ (∀ y : Int, 0 ≤ y → (y < 44 * fI fm mo 5 ∧ (y < 44 * c' ∨ 44 * c' + 43 < y)) → aI f2 (ad 4) y = aI fm (ad 4) y) ∧ (∀ j : Int, 0 ≤ j → j ≤ 10 → aI f2 (ad 4) (44 * c' + j) = HWd (aI fm (ad 4)) (44 * c') d' (44 * c' + j)) ∧ (∀ j : Int, 0 ≤ j → j ≤ 10 → aI f2 (ad 4) (44 * fI fm mo 5 + j) = TWd (aI fm (ad 4)) (44 * c') d' (44 * c' + j)))) (ec : c = c') (ed : d = d') : CR f1 x f2 mo ad ∧ r = r' := by
  subst ec
  subst ed
  have b2 := bt.kp k (by decide)
  rcases e with ⟨e1, e2, e3⟩ | ⟨e1, e2, e3, e4, e5, e6, e7, e8, e9⟩ <;> rcases q with ⟨d1, d2, d3, d4⟩ | ⟨d1, d2, d3, d4, d5, d6, d7, d8, d9, d10, d11, d12⟩
  · rw [e3]
    exact ⟨⟨⟨rq, rr, im, tp, CW.to cw d4 d3 (fun j y => k.1 6 rfl (by decide) _) (fun j => k.1 7 rfl (by decide) j) (fun i => k.1 8 rfl (by decide) i) (k.2 9 (by decide))⟩, b2⟩, by omega⟩
  · exact absurd e2 (by omega)
  · exact absurd d2 (by omega)
  · exact ⟨⟨⟨rq, rr, im, tp, CW.to (CW.split cw hg hg1 mx ox hx e2 e3 e6 e9 d10 d11 d12) (fun _ => rfl) d9 (fun j y => k.1 6 rfl (by decide) _) (fun j => k.1 7 rfl (by decide) j) (fun i => k.1 8 rfl (by decide) i) (k.2 9 (by decide))⟩, b2⟩, by omega⟩
theorem CR.image {cy : Cy} {M : List Nat} {f0 f1 fm f2 : Nat → va_E} {x mo im tp : Nat} {ad : Nat → Nat} {rq : Int → Nat} {rr : Int → Int → Nat} {r r' c c' : Int} (cw : CWm f0 x rq rr im tp fm mo ad) (bt : BT fm ad) (hg : GI cy M f0) (mx : x ∈ M) (ox : Ob f0 x 7)
    (e : (r = 0 ∧ (c < 0 ∨ 1 < c) ∧ f1 = f0) ∨ (r = 1 ∧ 0 ≤ c ∧ c ≤ 1 ∧ ∃ (sh s : Nat) (rn : Int → Nat) (f9 : Nat → va_E), fR f0 x 2 = some sh ∧ ((f9 = f0 ∧ rn = rr c ∧ 0 ≤ aI fm (ad 7) c ∧ aR f0 im c = some s) ∨ (aI fm (ad 7) c = -1 ∧ s ∉ M ∧ (∀ i : Int, 0 ≤ i → i < 12 → rn i ∉ M) ∧ (∀ y ∈ M, y ≠ im → f9 y = f0 y) ∧ (∀ j : Int, 0 ≤ j → j ≠ c → aR f9 im j = aR f0 im j))) ∧ aR f1 im c = some s ∧ SR f1 s rn (aI fm (ad 4)) (fI fm mo 5) ∧ SR f1 sh rq (aI fm (ad 4)) (fI fm mo 5) ∧ Fo (PS s rn) cy f9 f1 ∧ Fr0 f9 f1))
    (k : Kp mo ad [6, 7] [10] fm f2) (q : (r' = 0 ∧ (c' < 0 ∨ 1 < c') ∧ (∀ y : Int, aI f2 (ad 6) y = aI fm (ad 6) y) ∧ ∀ y : Int, aI f2 (ad 7) y = aI fm (ad 7) y) ∨ (r' = 1 ∧ 0 ≤ c' ∧ c' ≤ 1 ∧ aI f2 (ad 7) c' = fI fm mo 5 ∧ (∀ y : Int, 0 ≤ y → y ≠ c' → aI f2 (ad 7) y = aI fm (ad 7) y) ∧ (∀ j : Int, 0 ≤ j → j < 528 → aI f2 (ad 6) (528 * c' + j) = aI fm (ad 4) j) ∧ ∀ y : Int, 0 ≤ y → (y < 528 * c' ∨ 528 * c' + 528 ≤ y) → aI f2 (ad 6) y = aI fm (ad 6) y)) (ec : c = c') : CR f1 x f2 mo ad ∧ r = r' := by
  subst ec
  have b2 := bt.kp k (by decide)
  rcases e with ⟨e1, e2, e3⟩ | ⟨e1, e2, e3, e4⟩ <;> rcases q with ⟨d1, d2, d3, d4⟩ | ⟨d1, d2, d3, d4, d5, d6, d7⟩
  · rw [e3]
    exact ⟨⟨⟨rq, rr, im, tp, CW.to cw (fun y => k.1 4 rfl (by decide) y) (k.2 5 (by decide)) (fun j y => d3 _) d4 (fun i => k.1 8 rfl (by decide) i) (k.2 9 (by decide))⟩, b2⟩, by omega⟩
  · exact absurd d2 (by omega)
  · exact absurd e2 (by omega)
  · obtain ⟨rr', c2⟩ := CW.imaged (N' := aI f2 (ad 7)) (G' := gIm f2 ad) cw hg mx ox e2 e3 e4 d4 d5 d6 (fun j j0 j1 jc y y0 y1 => d7 _ (by omega) (by omega))
    exact ⟨⟨⟨rq, rr', im, tp, CW.to c2 (fun y => k.1 4 rfl (by decide) y) (k.2 5 (by decide)) (fun _ _ => rfl) (fun _ => rfl) (fun i => k.1 8 rfl (by decide) i) (k.2 9 (by decide))⟩, b2⟩, by omega⟩
theorem CR.back {cy : Cy} {M : List Nat} {f0 f1 fm f2 : Nat → va_E} {x mo im tp : Nat} {ad : Nat → Nat} {rq : Int → Nat} {rr : Int → Int → Nat} {r r' c c' : Int} (cw : CWm f0 x rq rr im tp fm mo ad) (bt : BT fm ad) (hg : GI cy M f0) (mx : x ∈ M) (ox : Ob f0 x 7)
    (e : (r = 0 ∧ (c < 0 ∨ 1 < c ∨ aI fm (ad 7) c = -1) ∧ f1 = f0) ∨ (r = 1 ∧ 0 ≤ c ∧ c ≤ 1 ∧ 0 ≤ aI fm (ad 7) c ∧ ∃ sh s : Nat, fR f0 x 2 = some sh ∧ aR f0 im c = some s ∧ SR f1 sh rq (gIm fm ad c) (aI fm (ad 7) c) ∧ SR f1 s (rr c) (gIm fm ad c) (aI fm (ad 7) c) ∧ Fo (PS sh rq) cy f0 f1 ∧ Fr0 f0 f1))
    (k : Kp mo ad [4] [5, 10] fm f2) (q : (r' = 0 ∧ (c' < 0 ∨ 1 < c' ∨ aI fm (ad 7) c' < 0) ∧ fI f2 mo 5 = fI fm mo 5 ∧ ∀ y : Int, aI f2 (ad 4) y = aI fm (ad 4) y) ∨ (r' = 1 ∧ 0 ≤ c' ∧ c' ≤ 1 ∧ 0 ≤ aI fm (ad 7) c' ∧ fI f2 mo 5 = aI fm (ad 7) c' ∧ ∀ j : Int, 0 ≤ j → j < 528 → aI f2 (ad 4) j = aI fm (ad 6) (528 * c' + j))) (ec : c = c') : CR f1 x f2 mo ad ∧ r = r' := by
  subst ec
  have b2 := bt.kp k (by decide)
  rcases e with ⟨e1, e2, e3⟩ | ⟨e1, e2, e3, e4, e5⟩ <;> rcases q with ⟨d1, d2, d3, d4⟩ | ⟨d1, d2, d3, d4, d5, d6⟩
  · rw [e3]
    exact ⟨⟨⟨rq, rr, im, tp, CW.to cw d4 d3 (fun j y => k.1 6 rfl (by decide) _) (fun j => k.1 7 rfl (by decide) j) (fun i => k.1 8 rfl (by decide) i) (k.2 9 (by decide))⟩, b2⟩, by omega⟩
  · exact absurd e2 (by omega)
  · exact absurd d2 (by omega)
  · exact ⟨⟨⟨rq, rr, im, tp, CW.to (CW.back (g' := aI f2 (ad 4)) cw hg mx ox e2 e3 e4 e5 d6) (fun _ => rfl) d5 (fun j y => k.1 6 rfl (by decide) _) (fun j => k.1 7 rfl (by decide) j) (fun i => k.1 8 rfl (by decide) i) (k.2 9 (by decide))⟩, b2⟩, by omega⟩
theorem CR.ended {cy : Cy} {M : List Nat} {f0 f1 fm f2 : Nat → va_E} {x mo im tp : Nat} {ad : Nat → Nat} {rq : Int → Nat} {rr : Int → Int → Nat} {r r' c c' : Int} (cw : CWm f0 x rq rr im tp fm mo ad) (bt : BT fm ad) (hg : GI cy M f0) (mx : x ∈ M) (ox : Ob f0 x 7)
    (e : (r = -1 ∧ (c < 0 ∨ fI f0 x 1 < c) ∧ f1 = f0) ∨ (0 ≤ c ∧ c ≤ fI f0 x 1 ∧ r = c ∧ fI f1 x 1 = c ∧ FT f0 f1 x x))
    (k : Kp mo ad [] [9, 10] fm f2) (q : r' = -1 ∧ (c' < 0 ∨ fI fm mo 9 < c') ∧ fI f2 mo 9 = fI fm mo 9 ∨ 0 ≤ c' ∧ c' ≤ fI fm mo 9 ∧ r' = c' ∧ fI f2 mo 9 = c') (ec : c = c') : CR f1 x f2 mo ad ∧ r = r' := by
  subst ec
  have b2 := bt.kp k (by decide)
  have hn : fI f0 x 1 = fI fm mo 9 := cw.2.2.2.2.2.2
  rcases e with ⟨e1, e2, e3⟩ | ⟨e1, e2, e3, e4, e5⟩ <;> rcases q with ⟨d1, d2, d3⟩ | ⟨d1, d2, d3, d4⟩
  · rw [e3]
    exact ⟨⟨⟨rq, rr, im, tp, CW.to cw (fun y => k.1 4 rfl (by decide) y) (k.2 5 (by decide)) (fun j y => k.1 6 rfl (by decide) _) (fun j => k.1 7 rfl (by decide) j) (fun i => k.1 8 rfl (by decide) i) d3⟩, b2⟩, by omega⟩
  · exact absurd e2 (by omega)
  · exact absurd d2 (by omega)
  · exact ⟨⟨⟨rq, rr, im, tp, CW.to (CW.own cw hg mx ox (fun y _ h => e5.1 y h h) e5.2 e4) (fun y => k.1 4 rfl (by decide) y) (k.2 5 (by decide)) (fun j y => k.1 6 rfl (by decide) _) (fun j => k.1 7 rfl (by decide) j) (fun i => k.1 8 rfl (by decide) i) d4⟩, b2⟩, by omega⟩
theorem CR.feed {cy : Cy} {M : List Nat} {f0 f1 fm f2 : Nat → va_E} {x mo im tp : Nat} {ad : Nat → Nat} {rq : Int → Nat} {rr : Int → Int → Nat} {r r' a b c a' b' c' : Int} (cw : CWm f0 x rq rr im tp fm mo ad) (bt : BT fm ad) (hg : GI cy M f0) (mx : x ∈ M) (ox : Ob f0 x 7)
    (e : (r = -1 ∧ 144 < fI f0 x 1 ∧ f1 = f0) ∨ (fI f0 x 1 ≤ 144 ∧ r = fI f0 x 1 + 24 ∧ fI f1 x 1 = fI f0 x 1 + 24 ∧ FT f0 f1 x tp ∧ TPc (aI f0 tp) (aI f1 tp) a b c (fI f0 x 1)))
    (k : Kp mo ad [8] [9, 10] fm f2) (q : (r' = -1 ∧ 144 < fI fm mo 9 ∧ fI f2 mo 9 = fI fm mo 9 ∧ (∀ i : Int, aI f2 (ad 8) i = aI fm (ad 8) i)) ∨ (fI fm mo 9 ≤ 144 ∧ r' = fI fm mo 9 + 24 ∧ fI f2 mo 9 = fI fm mo 9 + 24 ∧ TPc (aI fm (ad 8)) (aI f2 (ad 8)) a' b' c' (fI fm mo 9))) (ea : a = a') (eb : b = b') (ec : c = c') : CR f1 x f2 mo ad ∧ r = r' := by
  subst ea
  subst eb
  subst ec
  have hn : fI f0 x 1 = fI fm mo 9 := cw.2.2.2.2.2.2
  have ht := cw.2.2.2.2.2.1
  rcases e with ⟨e1, e2, e3⟩ | ⟨e1, e2, e3, e4, e5⟩ <;> rcases q with ⟨d1, d2, d3, d4⟩ | ⟨d1, d2, d3, d4⟩
  · rw [e3]
    exact ⟨⟨⟨rq, rr, im, tp, CW.to cw (fun y => k.1 4 rfl (by decide) y) (k.2 5 (by decide)) (fun j y => k.1 6 rfl (by decide) _) (fun j => k.1 7 rfl (by decide) j) d4 d3⟩, fun i i0 i1 => by rw [d4 i]; exact bt i i0 i1⟩, by omega⟩
  · exact absurd e2 (by omega)
  · exact absurd d2 (by omega)
  · rw [hn] at e5
    have both := e5.both d4 (fun i i0 i1 => ⟨ht i i0 i1, bt i i0 i1⟩)
    exact ⟨⟨⟨rq, rr, im, tp, CW.to (CW.fed (T' := aI f2 (ad 8)) cw hg mx ox e4 (fun i i0 i1 => (both i i0 i1).1) e3) (fun y => k.1 4 rfl (by decide) y) (k.2 5 (by decide)) (fun j y => k.1 6 rfl (by decide) _) (fun j => k.1 7 rfl (by decide) j) (fun _ => rfl) (by omega)⟩, fun i i0 i1 => (both i i0 i1).2⟩, by omega⟩
/-- the tape's bytes, none beyond it -/
noncomputable def Tc (fm : Nat → va_E) (ad : Nat → Nat) : Int → Int := fun i => if 0 ≤ i ∧ i < 168 then aI fm (ad 8) i else 0
theorem Tc_e {fm : Nat → va_E} {ad : Nat → Nat} {i : Int} (i0 : 0 ≤ i) (i1 : i < 168) : aI fm (ad 8) i = Tc fm ad i := by unfold Tc; rw [if_pos ⟨i0, i1⟩]
theorem Tc_b {fm : Nat → va_E} {ad : Nat → Nat} (bt : BT fm ad) (i : Int) : 0 ≤ Tc fm ad i ∧ Tc fm ad i ≤ 255 := by
  unfold Tc
  by_cases c : 0 ≤ i ∧ i < 168
  · rw [if_pos c]; exact bt i c.1 c.2
  · rw [if_neg c]; omega
theorem CR.book {cy : Cy} {M M1 : List Nat} {f0 f1 fm f2 : Nat → va_E} {x mo im tp : Nat} {ad : Nat → Nat} {rq : Int → Nat} {rr : Int → Int → Nat} {r r' : Int} (cw : CWm f0 x rq rr im tp fm mo ad) (bt : BT fm ad) (hg : GI cy M f0) (hsb : ∀ y ∈ M, y ∈ M1) (hg1 : GI cy M1 f1) (al : Al cy M f0 f1) (mx : x ∈ M) (ox : Ob f0 x 7)
    (e : (r = -1 ∧ (160 < fI f0 x 1 ∨ 12 ≤ fI fm mo 5) ∧ (∀ y ∈ M, y ≠ x → f1 y = f0 y) ∧ (∀ k : Nat, k ≠ 1 → fV f1 x k = fV f0 x k) ∧ fI f1 x 1 = 0) ∨ (fI f0 x 1 ≤ 160 ∧ fI fm mo 5 < 12 ∧ bkF (Tc fm ad) (fI f0 x 1) ≠ 0 ∧ r = -2 - bkF (Tc fm ad) (fI f0 x 1) ∧ (∀ y ∈ M, y ≠ x → y ≠ rq (fI fm mo 5) → f1 y = f0 y) ∧ (∀ k : Nat, k ≠ 1 → fV f1 x k = fV f0 x k) ∧ fI f1 x 1 = 0) ∨ (fI f0 x 1 ≤ 160 ∧ fI fm mo 5 < 12 ∧ bkF (Tc fm ad) (fI f0 x 1) = 0 ∧ r = fI fm mo 5 ∧ ∃ (sh : Nat) (f9 : Nat → va_E), fR f0 x 2 = some sh ∧ ((∀ y ∈ M, y ≠ x → y ≠ rq (fI fm mo 5) → f9 y = f0 y) ∧ (∀ k : Nat, k ≠ 1 → fV f9 x k = fV f0 x k) ∧ fI f9 x 1 = 0) ∧ RB f9 (rq (fI fm mo 5)) (bkW (Tc fm ad) (fI f0 x 1)) 0 ∧ RK f9 f1 sh ∧ fI f1 sh 1 = fI fm mo 5 + 1))
    (k : Kp mo ad [4, 21] [5, 9, 10, 14, 15, 16, 17, 18, 19, 20, 22] fm f2) (q9 : fI f2 mo 9 = 0) (q : (r' = -1 ∧ (160 < fI fm mo 9 ∨ 12 ≤ fI fm mo 5) ∧ fI f2 mo 5 = fI fm mo 5 ∧ (∀ y : Int, 0 ≤ y → y < 44 * fI fm mo 5 → aI f2 (ad 4) y = aI fm (ad 4) y)) ∨ (fI fm mo 9 ≤ 160 ∧ fI fm mo 5 < 12 ∧ bkF (Tc fm ad) (fI fm mo 9) ≠ 0 ∧ r' = -2 - bkF (Tc fm ad) (fI fm mo 9) ∧ fI f2 mo 5 = fI fm mo 5 ∧ (∀ y : Int, 0 ≤ y → y < 44 * fI fm mo 5 → aI f2 (ad 4) y = aI fm (ad 4) y)) ∨ (fI fm mo 9 ≤ 160 ∧ fI fm mo 5 < 12 ∧ bkF (Tc fm ad) (fI fm mo 9) = 0 ∧ r' = fI fm mo 5 ∧ fI f2 mo 5 = fI fm mo 5 + 1 ∧ (∀ y : Int, 0 ≤ y → y < 44 * fI fm mo 5 → aI f2 (ad 4) y = aI fm (ad 4) y) ∧ (∀ j : Int, 0 ≤ j → j ≤ 10 → aI f2 (ad 4) (44 * fI fm mo 5 + j) = bkW (Tc fm ad) (fI fm mo 9) j) ∧ aI f2 (ad 4) (44 * fI fm mo 5 + 11) = 0)) : CR f1 x f2 mo ad ∧ r = r' := by
  have b2 := bt.kp k (by decide)
  have hn : fI f0 x 1 = fI fm mo 9 := cw.2.2.2.2.2.2
  rw [hn] at e
  have go : ∀ {rq' : Int → Nat} {g : Int → Int} {m : Int}, CW f1 x rq' rr im tp g m (gIm fm ad) (aI fm (ad 7)) (aI fm (ad 8)) 0 → g = aI f2 (ad 4) → fI f2 mo 5 = m → CR f1 x f2 mo ad := fun c h1 h2 => ⟨⟨_, rr, im, tp, CW.to c (fun y => by rw [h1]) h2 (fun j y => k.1 6 rfl (by decide) _) (fun j => k.1 7 rfl (by decide) j) (fun i => k.1 8 rfl (by decide) i) q9⟩, b2⟩
  rcases e with ⟨e1, e2, e3, e4, e5⟩ | ⟨e1, e2, e3, e4, e5, e6, e7⟩ | ⟨e1, e2, e3, e4, e5⟩
  · have z : r' = -1 ∧ fI f2 mo 5 = fI fm mo 5 ∧ (∀ y : Int, 0 ≤ y → y < 44 * fI fm mo 5 → aI f2 (ad 4) y = aI fm (ad 4) y) := by
      rcases q with ⟨d1, d2, d3, d4⟩ | ⟨d1, d2, d3⟩ | ⟨d1, d2, d3⟩
      · exact ⟨d1, d3, d4⟩
      · exact absurd e2 (by omega)
      · exact absurd e2 (by omega)
    exact ⟨go (CW.cg (g' := aI f2 (ad 4)) (CW.own cw hg mx ox e3 e4 e5) (fun i j i0 i1 j0 j1 => z.2.2 _ (by omega) (by omega))) rfl z.2.1, by omega⟩
  · have z : r' = -2 - bkF (Tc fm ad) (fI fm mo 9) ∧ fI f2 mo 5 = fI fm mo 5 ∧ (∀ y : Int, 0 ≤ y → y < 44 * fI fm mo 5 → aI f2 (ad 4) y = aI fm (ad 4) y) := by
      rcases q with ⟨d1, d2, d3, d4⟩ | ⟨d1, d2, d3, d4, d5, d6⟩ | ⟨d1, d2, d3, d4⟩
      · exact absurd d2 (by omega)
      · exact ⟨d4, d5, d6⟩
      · exact absurd d3 e3
    exact ⟨go (CW.cg (g' := aI f2 (ad 4)) (CW.unbooked cw hg mx ox al e2 e5 e6 e7) (fun i j i0 i1 j0 j1 => z.2.2 _ (by omega) (by omega))) rfl z.2.1, e4.trans z.1.symm⟩
  · rcases q with ⟨d1, d2, d3, d4⟩ | ⟨d1, d2, d3, d4, d5, d6⟩ | ⟨d1, d2, d3, d4, d5, d6, d7, d8⟩
    · exact absurd d2 (by omega)
    · exact absurd e3 d3
    · exact ⟨go (CW.booked (g' := aI f2 (ad 4)) cw hg hsb hg1 mx ox al e2 e5 d6 d7) rfl d5, e4.trans d4.symm⟩
/-! ===== key, keys ===== -/
theorem CWm.key {f fm : Nat → va_E} {x mo im tp : Nat} {ad : Nat → Nat} {rq : Int → Nat} {rr : Int → Int → Nat} {r r' c c' d d' : Int} (cw : CWm f x rq rr im tp fm mo ad)
    (e : (r = -1 ∧ (c < 0 ∨ fI fm mo 5 ≤ c ∨ d < 0 ∨ 36524 < d)) ∨ (0 ≤ c ∧ c < fI fm mo 5 ∧ 0 ≤ d ∧ d ≤ 36524 ∧ Fst (KG (aI fm (ad 4)) (44 * c)) d r))
    (q : (r' = -1 ∧ (c' < 0 ∨ fI fm mo 5 ≤ c' ∨ d' < 0 ∨ 36524 < d')) ∨ (0 ≤ c' ∧ c' < fI fm mo 5 ∧ 0 ≤ d' ∧ d' ≤ 36524 ∧ Fst (Ky (onK (aI fm (ad 4) (44 * c' + 3)) (aI fm (ad 4) (44 * c' + 4)) (aI fm (ad 4) (44 * c' + 5)) (aI fm (ad 4) (44 * c' + 6)) (aI fm (ad 4) (44 * c' + 7))) (aI fm (ad 4) (44 * c' + 10)) (UN (aI fm (ad 4)) (44 * c')) (aI fm (ad 4) (44 * c' + 9))) d' r')) (ec : c = c') (ed : d = d') : r = r' := by
  subst ec
  subst ed
  rcases e with ⟨e1, e2⟩ | ⟨e1, e2, e3, e4, e5⟩ <;> rcases q with ⟨d1, d2⟩ | ⟨d1, d2, d3, d4, d5⟩
  · omega
  · omega
  · omega
  · rw [kg_ref (cw.u8 e1 e2)] at e5
    exact Fst.one e3 e5 d5
theorem CWm.keys {f fm : Nat → va_E} {x mo im tp : Nat} {ad : Nat → Nat} {rq : Int → Nat} {rr : Int → Int → Nat} {r r' c c' d d' u u' : Int} (cw : CWm f x rq rr im tp fm mo ad)
    (e : (r = -1 ∧ (c < 0 ∨ fI fm mo 5 ≤ c ∨ d < 0 ∨ 36524 < d ∨ u < 0 ∨ 36524 < u ∨ u < d)) ∨ (0 ≤ c ∧ c < fI fm mo 5 ∧ 0 ≤ d ∧ d ≤ u ∧ u ≤ 36524 ∧ r = cn (KG (aI fm (ad 4)) (44 * c)) d (u + 1)))
    (q : (r' = -1 ∧ (c' < 0 ∨ fI fm mo 5 ≤ c' ∨ d' < 0 ∨ 36524 < d' ∨ u' < 0 ∨ 36524 < u' ∨ u' < d')) ∨ (0 ≤ c' ∧ c' < fI fm mo 5 ∧ 0 ≤ d' ∧ d' ≤ u' ∧ u' ≤ 36524 ∧ r' = cn (Ky (onK (aI fm (ad 4) (44 * c' + 3)) (aI fm (ad 4) (44 * c' + 4)) (aI fm (ad 4) (44 * c' + 5)) (aI fm (ad 4) (44 * c' + 6)) (aI fm (ad 4) (44 * c' + 7))) (aI fm (ad 4) (44 * c' + 10)) (UN (aI fm (ad 4)) (44 * c')) (aI fm (ad 4) (44 * c' + 9))) d' (u' + 1))) (ec : c = c') (ed : d = d') (eu : u = u') : r = r' := by
  subst ec
  subst ed
  subst eu
  rcases e with ⟨e1, e2⟩ | ⟨e1, e2, e3, e4, e5, e6⟩ <;> rcases q with ⟨d1, d2⟩ | ⟨d1, d2, d3, d4, d5, d6⟩
  · omega
  · omega
  · omega
  · rw [kg_ref (cw.u8 e1 e2)] at e6
    exact e6.trans d6.symm
/-! ===== the start ===== -/
theorem CR.start {f fm : Nat → va_E} {x mo sh im tp : Nat} {ad : Nat → Nat} {rq : Int → Nat} (e2 : fR f x 2 = some sh) (sf : SF f sh rq) (z : fI f sh 1 = 0) (e3 : fR f x 3 = some im) (hn : ∀ j : Int, aR f im j = none) (e0 : fR f x 0 = some tp) (ht : ∀ j : Int, aI f tp j = 0) (e1 : fI f x 1 = 0) (m5 : fI fm mo 5 = 0) (m9 : fI fm mo 9 = 0) (m70 : aI fm (ad 7) 0 = -1) (m71 : aI fm (ad 7) 1 = -1) (m8 : ∀ i : Int, aI fm (ad 8) i = 0) : CR f x fm mo ad := by
  have m7 : ∀ j : Int, 0 ≤ j → j ≤ 1 → aI fm (ad 7) j = -1 := fun j j0 j1 => by rcases (show j = 0 ∨ j = 1 by omega) with rfl | rfl <;> assumption
  refine ⟨⟨rq, fun _ => rq, im, tp, ⟨sh, e2, ⟨sf, z.trans m5.symm, fun i i0 i1 => ?_⟩, by omega, by omega⟩, e3, fun j j0 j1 => Or.inl ⟨m7 j j0 j1, hn j⟩, fun j k j0 j1 _ _ _ n0 _ => ?_, e0, fun i _ _ => (ht i).trans (m8 i).symm, e1.trans m9.symm⟩, fun i _ _ => by rw [m8 i]; omega⟩
  · exact absurd i1 (by omega)
  · exact absurd n0 (by rw [m7 j j0 j1]; omega)
