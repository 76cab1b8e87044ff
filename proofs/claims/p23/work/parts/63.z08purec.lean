/-! ===== calls that change some bookings: all else stays (but changes, what was found, rows of ints) ===== -/
def Fo (P : Nat → Prop) (cy : Cy) (f g : Nat → va_E) : Prop := Sh f g ∧ (∀ y k : Nat, ¬ P y → k ≠ 10 → k ≠ 13 → k ≠ 14 → fV g y k = fV f y k) ∧ (∀ y ci k : Nat, ¬ P y → Ob f y ci → ci ≠ 0 → fV g y k = fV f y k) ∧ (∀ (y : Nat) (j : Int), ArI f y cy.1 168 → aI g y j = aI f y j)
/-- rows of references stay -/
def Fr0 (f g : Nat → va_E) : Prop := ∀ (y : Nat) (j : Int), aR g y j = aR f y j
theorem Fo.refl (P : Nat → Prop) (cy : Cy) (f : Nat → va_E) : Fo P cy f f := ⟨Sh.refl f, fun _ _ _ _ _ _ => rfl, fun _ _ _ _ _ _ => rfl, fun _ _ _ => rfl⟩
theorem Fo.trans {P : Nat → Prop} {cy : Cy} {f g h : Nat → va_E} (a : Fo P cy f g) (b : Fo P cy g h) : Fo P cy f h :=
  ⟨a.1.trans b.1, fun y k p h1 h2 h3 => (b.2.1 y k p h1 h2 h3).trans (a.2.1 y k p h1 h2 h3), fun y ci k p o h0 => (b.2.2.1 y ci k p (a.1.1 _ _ o) h0).trans (a.2.2.1 y ci k p o h0), fun y j o => (b.2.2.2 y j (a.1.2.1 _ _ _ o)).trans (a.2.2.2 y j o)⟩
theorem Fo.mono {P Q : Nat → Prop} {cy : Cy} {f g : Nat → va_E} (a : Fo P cy f g) (h : ∀ y, P y → Q y) : Fo Q cy f g :=
  ⟨a.1, fun y k p => a.2.1 y k (fun q => p (h y q)), fun y ci k p => a.2.2.1 y ci k (fun q => p (h y q)), a.2.2.2⟩
theorem Ef.fo {P : Nat → Prop} {cy : Cy} {f g : Nat → va_E} (a : Ef cy f g) : Fo P cy f g := ⟨a.1.1, fun y k _ => a.2.1 y k, fun y ci k _ => a.2.2.1 y ci k, a.2.2.2.2⟩
theorem Fo.pU {P : Nat → Prop} {cy : Cy} {f0 f g : Nat → va_E} {a k ci ty : Nat} {v : Value} (h : Fo P cy f0 f) (o : Ob f a ci) (hk : (sg ci)[k]? = some ty) (hv : tyv v = ty) (e : g = Jvm.Pilot.CBookIndexLaw_law_r3826_022878.pU f a k v) (p : P a) : Fo P cy f0 g := by
  refine h.trans ?_
  rw [e]
  exact ⟨Sh_pU o hk hv, fun y j q _ _ _ => fV_pU (Or.inl (fun z => q (z ▸ p))), fun y ci j q _ _ => fV_pU (Or.inl (fun z => q (z ▸ p))), fun y j _ => aI_pU o⟩
theorem Fo.aU {P : Nat → Prop} {cy : Cy} {f0 f g : Nat → va_E} {a : Nat} {cA : ClassId} {j : Int} {v : Int32} (h : Fo P cy f0 f) (o : ArI f a cA 16) (e : g = Jvm.Pilot.CBookIndexLaw_law_r3826_022878.aU f a j v) : Fo P cy f0 g := by
  rw [e]
  exact h.trans (Ef_aU o).fo
theorem Fo.aX {P : Nat → Prop} {cy : Cy} {f0 f g : Nat → va_E} {a : Nat} {cA : ClassId} {u : Nat → Int32} (h : Fo P cy f0 f) (o : ArI f a cA 16) (e : g = Jvm.Pilot.CBookIndexLaw_law_r3826_022878.aX f a u) : Fo P cy f0 g := by
  refine h.trans ?_
  rw [e]
  refine ⟨Sh_aX o, fun y k _ _ _ _ => fV_aX o, fun y ci k _ _ _ => fV_aX o, fun y k q => ?_⟩
  have : y ≠ a := fun z => by rw [z] at q; exact absurd (ArI_len o q) (by decide)
  unfold aI
  rw [aX_ne this]
theorem SeT.fo {P : Nat → Prop} {cy : Cy} {f g : Nat → va_E} {a : Nat} (s : Sh f g) (t : SeT f g a) (o : Ob f a 0) (p : P a) : Fo P cy f g := by
  refine ⟨s, fun y k q _ _ _ => ?_, fun y ci k q _ _ => ?_, fun y j q => ?_⟩
  · unfold fV; rw [t.1 y (fun z => q (z ▸ p))]
  · unfold fV; rw [t.1 y (fun z => q (z ▸ p))]
  · have : y ≠ a := fun z => by rw [z] at q; exact o.notI q
    unfold aI; rw [t.1 y this]
theorem SeT.fr {f g : Nat → va_E} {a : Nat} (t : SeT f g a) (s : Sh f g) (o : Ob f a 0) : Fr0 f g := by
  intro y j
  by_cases e : y = a
  · rw [e]
    obtain ⟨gs, h2, -⟩ := s.1 a 0 o
    obtain ⟨fs, h1, -⟩ := o
    unfold aR; rw [h1, h2]
  · unfold aR; rw [t.1 y e]
theorem RuK.fo {P : Nat → Prop} {cy : Cy} {f g : Nat → va_E} {r : Nat} {k n s v w : Int} (h : RuK f r k n s v w) (z : Fo P cy f g) (nr : ∀ q : Nat, Rl f q → ¬ P q) : RuK g r k n s v w :=
  h.keep (fun j => by rcases h.rl with q | q | q | q <;> exact z.2.2.1 _ _ j (nr r h.rl) q (by decide)) (fun ci h0 => z.1.1 _ _ h0)
/-- a Booking whose cells stay -/
theorem RB.fo {P : Nat → Prop} {cy : Cy} {f g : Nat → va_E} {b : Nat} {h : Int → Int} {p : Int} (r : RB f b h p) (z : Fo P cy f g) (nb : ¬ P b) (nr : ∀ q : Nat, Rl f q → ¬ P q) : RB g b h p := by
  have e : ∀ k : Nat, k ≠ 10 → k ≠ 13 → k ≠ 14 → fV g b k = fV f b k := fun k => z.2.1 _ k nb
  obtain ⟨⟨w, ⟨q, er, rk⟩, gb⟩, bd, tt⟩ := r
  unfold RB RW
  rw [fI_W (e 0 (by decide) (by decide) (by decide)), fI_W (e 1 (by decide) (by decide) (by decide)), fI_W (e 2 (by decide) (by decide) (by decide)), fI_W (e 4 (by decide) (by decide) (by decide)), fI_W (e 5 (by decide) (by decide) (by decide)), fI_W (e 6 (by decide) (by decide) (by decide)), fI_W (e 7 (by decide) (by decide) (by decide)), fI_W (e 8 (by decide) (by decide) (by decide)), fI_W (e 9 (by decide) (by decide) (by decide)), fR_W (e 3 (by decide) (by decide) (by decide))]
  exact ⟨⟨w, ⟨q, er, rk.fo z nr⟩, gb⟩, bd, tt⟩
/-- all fields up to the n-th are another Booking's -/
def CP (f0 f : Nat → va_E) (a b n : Nat) : Prop := (∀ k : Nat, k < n → fV f a k = fV f0 b k) ∧ (∀ k : Nat, fV f b k = fV f0 b k)
theorem CP.start (f0 : Nat → va_E) (a b : Nat) : CP f0 f0 a b 0 := ⟨fun _ h => absurd h (Nat.not_lt_zero _), fun _ => rfl⟩
theorem Ob.fVI {f : Nat → va_E} {a ci k : Nat} (h : Ob f a ci) (hk : (sg ci)[k]? = some 0) : fV f a k = some (.int (iI (fI f a k))) := by
  obtain ⟨fs, v, h1, h2, h3⟩ := h.int hk
  rw [h3, iI_of]
  unfold fV
  rw [h1]
  exact h2
theorem CP.put {f0 f g : Nat → va_E} {a b n : Nat} {x : Int} (h : CP f0 f a b n) (ne : b ≠ a) (o : Ob f a 0) (ob : Ob f b 0) (hk : (sg 0)[n]? = some 0) (e : g = pU f a n (.int (iI x))) (ex : x = fI f b n) : CP f0 g a b (n + 1) := by
  rw [e]
  refine ⟨fun k hk' => ?_, fun k => (fV_pU (Or.inl ne)).trans (h.2 k)⟩
  by_cases q : k = n
  · rw [q, fV_pU_self o hk, ex, ← ob.fVI hk]; exact h.2 n
  · rw [fV_pU (Or.inr q)]; exact h.1 k (by omega)
theorem Ob.fVR {f : Nat → va_E} {a k r : Nat} (h : fR f a k = some r) : fV f a k = some (.ref r) := by
  unfold fR at h
  split at h
  · cases h; assumption
  · cases h
theorem CP.putR {f0 f g : Nat → va_E} {a b n r : Nat} (h : CP f0 f a b n) (ne : b ≠ a) (o : Ob f a 0) (hk : (sg 0)[n]? = some 2) (e : g = pU f a n (.ref r)) (ex : fR f b n = some r) : CP f0 g a b (n + 1) := by
  rw [e]
  refine ⟨fun k hk' => ?_, fun k => (fV_pU (Or.inl ne)).trans (h.2 k)⟩
  by_cases q : k = n
  · rw [q, fV_pU_self o hk, ← Ob.fVR ex]; exact h.2 n
  · rw [fV_pU (Or.inr q)]; exact h.1 k (by omega)
theorem CP.aX {f0 f g : Nat → va_E} {a b n c : Nat} {cA : ClassId} {u : Nat → Int32} {l : Nat} (h : CP f0 f a b n) (o : ArI f c cA l) (e : g = Jvm.Pilot.CBookIndexLaw_law_r3826_022878.aX f c u) : CP f0 g a b n := by
  rw [e]
  exact ⟨fun k hk => (fV_aX o).trans (h.1 k hk), fun k => (fV_aX o).trans (h.2 k)⟩
/-- what a copy tells is what the other tells -/
theorem RB.copy {f g : Nat → va_E} {a b : Nat} {h : Int → Int} {p : Int} (r : RB f b h p) (c : ∀ k : Nat, k < 11 → fV g a k = fV f b k) (rk : ∀ (q : Nat) (k n s v w : Int), RuK f q k n s v w → RuK g q k n s v w) : RB g a h p := by
  obtain ⟨⟨w, ⟨q, er, ru⟩, gb⟩, bd, tt⟩ := r
  have e : ∀ k : Nat, k < 11 → fI g a k = fI f b k := fun k hk => by unfold fI; rw [c k hk]
  unfold RB RW
  rw [e 0 (by decide), e 1 (by decide), e 2 (by decide), e 4 (by decide), e 5 (by decide), e 6 (by decide), e 7 (by decide), e 8 (by decide), e 9 (by decide)]
  exact ⟨⟨w, ⟨q, by unfold fR at er ⊢; rw [c 3 (by decide)]; exact er, rk _ _ _ _ _ _ ru⟩, gb⟩, bd, tt⟩
/-- a contract says less -/
theorem Cv.post {Z : Zt} {l : Launch} {y : MethodName} {ws : List Cond} {rm : Room} {mc ms : Nat} {D : va_G} {tys : List (ClassId × FieldType)} {av : List Value} {L : List Nat} {f : Nat → va_E} {P Q : List Nat → (Nat → va_E) → Prop} (h : Cv Z l y ws rm mc ms D tys av L f P) (k : ∀ (L1 : List Nat) (f1 : Nat → va_E), P L1 f1 → Q L1 f1) : Cv Z l y ws rm mc ms D tys av L f Q := by
  intro sz p e h1 h2 h3 s m args below hf hs hp hk
  obtain ⟨n, o, a1, a2, a3, ⟨⟨u, b1, b2, b3⟩, b4⟩, b5⟩ := h sz p e h1 h2 h3 s m args below hf hs hp hk
  exact ⟨n, o, a1, a2, a3, ⟨⟨u, b1, k _ _ b2, b3⟩, b4⟩, b5⟩
theorem Ci.post {Z : Zt} {l : Launch} {y : MethodName} {ws : List Cond} {rm : Room} {mc ms : Nat} {D : va_G} {tys : List (ClassId × FieldType)} {av : List Value} {L : List Nat} {f : Nat → va_E} {P Q : Int → List Nat → (Nat → va_E) → Prop} (h : Ci Z l y ws rm mc ms D tys av L f P) (k : ∀ (r : Int) (L1 : List Nat) (f1 : Nat → va_E), P r L1 f1 → Q r L1 f1) : Ci Z l y ws rm mc ms D tys av L f Q := by
  intro sz p e h1 h2 h3 s m args below hf hs hp hk
  obtain ⟨n, o, a1, a2, a3, ⟨⟨r, u, b1, ⟨x, c1, c2, c3⟩, b3⟩, b4⟩, b5⟩ := h sz p e h1 h2 h3 s m args below hf hs hp hk
  exact ⟨n, o, a1, a2, a3, ⟨⟨r, u, b1, ⟨x, c1, c2, k _ _ _ c3⟩, b3⟩, b4⟩, b5⟩
theorem RW.settled {f g : Nat → va_E} {a : Nat} {h : Int → Int} {q : Int} (r : RW f a h q) (st : SeT f g a) (o : Ob f a 0) (bd : Bd (KG h q) (fI g a 7) (fI g a 8)) (tt : fI g a 9 = cn (KG h q) 0 36525) : RB g a h q := by
  obtain ⟨⟨w0, w1, w2, w4, w5, w6⟩, ⟨r0, er, rk⟩, gb⟩ := r
  refine ⟨⟨⟨?_, ?_, ?_, ?_, ?_, ?_⟩, ⟨r0, st.er er, st.rk rk o⟩, gb⟩, bd, tt⟩
  · rw [st.int (by decide) (by decide) (by decide)]; exact w0
  · rw [st.int (by decide) (by decide) (by decide)]; exact w1
  · rw [st.int (by decide) (by decide) (by decide)]; exact w2
  · rw [st.int (by decide) (by decide) (by decide)]; exact w4
  · rw [st.int (by decide) (by decide) (by decide)]; exact w5
  · rw [st.int (by decide) (by decide) (by decide)]; exact w6
/-! ===== a booking is cut in two ===== -/
def updW (h : Int → Int) (i x : Int) : Int → Int := fun j => if j = i then x else h j
theorem updW_s {h : Int → Int} {i x : Int} : updW h i x i = x := by unfold updW; rw [if_pos rfl]
theorem updW_n {h : Int → Int} {i x j : Int} (e : j ≠ i) : updW h i x j = h j := by unfold updW; rw [if_neg e]
noncomputable def HWd (g : Int → Int) (p x : Int) : Int → Int := if g (p + 9) < 0 then updW g (p + 8) (x - 1) else updW g (p + 9) (cn (KG g p) 0 x)
noncomputable def TWd (g : Int → Int) (p x : Int) : Int → Int := if g (p + 9) < 0 then updW g (p + 10) x else updW (updW g (p + 10) x) (p + 9) (cn (KG g p) 0 36525 - cn (KG g p) 0 x)
theorem ky_most {q : Int → Prop} {low hi most fk lk : Int} (h : Bd (Ky q low hi most) fk lk) (hm : 0 ≤ most) : cn (Ky q low hi most) 0 36525 ≤ most := by
  have hq := h
  rcases h with ⟨a, b, c⟩ | ⟨a, b, c, f1, f2, g⟩
  · rw [cn_none (fun d _ _ => c d)]; exact hm
  · have z := kn_in (a := 0) (b := 36524) hq (by omega)
    rw [show max 0 fk = fk by omega, show min 36524 lk = lk by omega] at z
    have e : cn (Ky q low hi most) 0 36525 = cn q fk (lk + 1) := z
    have f10 := f1.1
    have l0 := cn_add (p := q) (a := low) (b := fk) (c := lk + 1) f10 (by omega)
    have l1 := (cn_pos (p := q) (a := low) (b := fk)).1
    have l2 := cn_yes (p := q) (a := low) (b := lk) (by omega) f2.2.2.1
    rcases f2.2.2.2 with m | m
    · omega
    · omega
theorem KG.cut {g : Int → Int} {p x fk lk : Int} (bd : Bd (KG g p) fk lk) (gb : GB g p) (k1 : ∃ d : Int, d < x ∧ KG g p d) (k2 : ∃ d : Int, x ≤ d ∧ KG g p d) : g (p + 10) < x ∧ x ≤ 36524 ∧ 1 ≤ cn (KG g p) 0 x ∧ cn (KG g p) 0 x + 1 ≤ cn (KG g p) 0 36525 ∧ (0 ≤ g (p + 9) → cn (KG g p) 0 36525 ≤ g (p + 9)) := by
  obtain ⟨d, d1, d2⟩ := k1
  obtain ⟨e, e1, e2⟩ := k2
  have rd := bd.rg d2
  have re := bd.rg e2
  have l1 := cn_lt (p := KG g p) (a := 0) (b := d) (c := x) (by omega) d1 d2
  have l2 := (cn_pos (p := KG g p) (a := 0) (b := d)).1
  have l3 := cn_lt (p := KG g p) (a := 0) (b := e) (c := 36525) (by omega) (by omega) e2
  have l4 := cn_up (p := KG g p) (a := 0) (b := x) (c := e) e1
  have := d2.at
  exact ⟨by omega, by omega, by omega, by omega, fun q => ky_most bd q⟩
theorem RW.ef {cy : Cy} {f g : Nat → va_E} {b : Nat} {h : Int → Int} {p : Int} (r : RW f b h p) (z : Ef cy f g) : RW g b h p := by
  have e : ∀ k : Nat, k ≠ 10 → k ≠ 13 → k ≠ 14 → fV g b k = fV f b k := fun k => z.2.1 _ k
  obtain ⟨w, ⟨q, er, rk⟩, gb⟩ := r
  unfold RW
  rw [fI_W (e 0 (by decide) (by decide) (by decide)), fI_W (e 1 (by decide) (by decide) (by decide)), fI_W (e 2 (by decide) (by decide) (by decide)), fI_W (e 4 (by decide) (by decide) (by decide)), fI_W (e 5 (by decide) (by decide) (by decide)), fI_W (e 6 (by decide) (by decide) (by decide)), fR_W (e 3 (by decide) (by decide) (by decide))]
  exact ⟨w, ⟨q, er, rk.fo (P := fun _ => False) z.fo (fun _ _ h => h)⟩, gb⟩
theorem nrl {f : Nat → va_E} {a : Nat} (o : Ob f a 0) : ∀ q : Nat, Rl f q → ¬ (q = a) := by
  intro q h e
  rw [e] at h
  rcases h with h | h | h | h
  · exact absurd (o.uniq h) (by decide)
  · exact absurd (o.uniq h) (by decide)
  · exact absurd (o.uniq h) (by decide)
  · exact absurd (o.uniq h) (by decide)
/-- a number of another Booking is put -/
theorem RW.other {f g : Nat → va_E} {a b k ty : Nat} {h : Int → Int} {p : Int} {v : Value} (r : RW f b h p) (o : Ob f a 0) (hk : (sg 0)[k]? = some ty) (hv : tyv v = ty) (e : g = pU f a k v) (ne : b ≠ a) : RW g b h p := by
  obtain ⟨w, ⟨q, er, rk⟩, gb⟩ := r
  rw [e]
  have z : ∀ j : Nat, fV (pU f a k v) b j = fV f b j := fun j => fV_pU (Or.inl ne)
  unfold RW
  rw [fI_W (z 0), fI_W (z 1), fI_W (z 2), fI_W (z 4), fI_W (z 5), fI_W (z 6), fR_W (z 3)]
  exact ⟨w, ⟨q, er, rk.keep (fun j => fV_pU (Or.inl (fun y => nrl o q rk.rl y))) (fun ci oo => Ob_pU o hk hv oo)⟩, gb⟩
theorem RB.other {f g : Nat → va_E} {a b k ty : Nat} {h : Int → Int} {p : Int} {v : Value} (r : RB f b h p) (o : Ob f a 0) (hk : (sg 0)[k]? = some ty) (hv : tyv v = ty) (e : g = pU f a k v) (ne : b ≠ a) : RB g b h p := by
  refine ⟨r.1.other o hk hv e ne, ?_⟩
  have z : ∀ j : Nat, fV g b j = fV f b j := fun j => by rw [e]; exact fV_pU (Or.inl ne)
  rw [fI_W (z 7), fI_W (z 8), fI_W (z 9)]
  exact r.2
/-- one of a Booking's own numbers is put: until, times, low -/
theorem RW.put {f g : Nat → va_E} {a k : Nat} {h : Int → Int} {p off x x' : Int} (r : RW f a h p) (o : Ob f a 0) (hk : (sg 0)[k]? = some 0) (rx : rg x) (e : g = pU f a k (.int (iI x))) (hko : (k = 4 ∧ off = 8) ∨ (k = 5 ∧ off = 9) ∨ (k = 6 ∧ off = 10)) (ex : x = x') (gb : GB (updW h (p + off) x') p) : RW g a (updW h (p + off) x') p := by
  subst ex
  obtain ⟨⟨w0, w1, w2, w4, w5, w6⟩, ⟨q, er, rk⟩, -⟩ := r
  rw [e]
  have u : ∀ j : Int, j ≠ p + off → updW h (p + off) x j = h j := fun j => updW_n
  have n : ∀ j : Nat, j ≠ k → fI (pU f a k (.int (iI x))) a j = fI f a j := fun j hj => fI_pU (Or.inr hj)
  have s : fI (pU f a k (.int (iI x))) a k = x := fI_pU_self o hk rx
  have rr : fR (pU f a k (.int (iI x))) a 3 = some q := (fR_pU (Or.inr (by omega))).trans er
  have ru : RuK (pU f a k (.int (iI x))) q (h (p + 3)) (h (p + 4)) (h (p + 5)) (h (p + 6)) (h (p + 7)) := rk.of (pU_ne (nrl o q rk.rl))
  refine ⟨⟨?_, ?_, ?_, ?_, ?_, ?_⟩, ⟨q, rr, ?_⟩, gb⟩
  · rw [n 0 (by omega), u p (by omega)]; exact w0
  · rw [n 1 (by omega), u (p + 1) (by omega)]; exact w1
  · rw [n 2 (by omega), u (p + 2) (by omega)]; exact w2
  · rcases hko with ⟨rfl, rfl⟩ | ⟨rfl, rfl⟩ | ⟨rfl, rfl⟩
    · rw [s, updW_s]
    · rw [n 4 (by omega), u (p + 8) (by omega)]; exact w4
    · rw [n 4 (by omega), u (p + 8) (by omega)]; exact w4
  · rcases hko with ⟨rfl, rfl⟩ | ⟨rfl, rfl⟩ | ⟨rfl, rfl⟩
    · rw [n 5 (by omega), u (p + 9) (by omega)]; exact w5
    · rw [s, updW_s]
    · rw [n 5 (by omega), u (p + 9) (by omega)]; exact w5
  · rcases hko with ⟨rfl, rfl⟩ | ⟨rfl, rfl⟩ | ⟨rfl, rfl⟩
    · rw [n 6 (by omega), u (p + 10) (by omega)]; exact w6
    · rw [n 6 (by omega), u (p + 10) (by omega)]; exact w6
    · rw [s, updW_s]
  · rw [u (p + 3) (by omega), u (p + 4) (by omega), u (p + 5) (by omega), u (p + 6) (by omega), u (p + 7) (by omega)]; exact ru
theorem GB.upd8 {h : Int → Int} {p x : Int} (g : GB h p) (h9 : h (p + 9) = -1) (x0 : h (p + 5) ≤ x) (x1 : x ≤ 36524) : GB (updW h (p + 8) x) p := by
  obtain ⟨g1, g2, g3, g4, g5, g6⟩ := g
  unfold GB
  rw [updW_s, updW_n (show p ≠ p + 8 by omega), updW_n (show p + 5 ≠ p + 8 by omega), updW_n (show p + 9 ≠ p + 8 by omega), updW_n (show p + 10 ≠ p + 8 by omega)]
  exact ⟨g1, g2, Or.inr ⟨x0, x1⟩, Or.inl h9, g5, g6⟩
theorem GB.upd9 {h : Int → Int} {p x : Int} (g : GB h p) (h9 : 0 ≤ h (p + 9)) (x0 : 1 ≤ x) (x1 : x ≤ h (p + 9)) : GB (updW h (p + 9) x) p := by
  obtain ⟨g1, g2, g3, g4, g5, g6⟩ := g
  unfold GB
  rw [updW_s, updW_n (show p ≠ p + 9 by omega), updW_n (show p + 5 ≠ p + 9 by omega), updW_n (show p + 8 ≠ p + 9 by omega), updW_n (show p + 10 ≠ p + 9 by omega)]
  exact ⟨g1, g2, g3, Or.inr ⟨x0, by omega, by omega⟩, g5, g6⟩
theorem GB.upd10 {h : Int → Int} {p x : Int} (g : GB h p) (x0 : h (p + 5) ≤ x) (x1 : x ≤ 36524) : GB (updW h (p + 10) x) p := by
  obtain ⟨g1, g2, g3, g4, g5, g6⟩ := g
  unfold GB
  rw [updW_s, updW_n (show p ≠ p + 10 by omega), updW_n (show p + 5 ≠ p + 10 by omega), updW_n (show p + 8 ≠ p + 10 by omega), updW_n (show p + 9 ≠ p + 10 by omega)]
  exact ⟨g1, g2, g3, g4, x0, x1⟩
theorem RW.st {f g : Nat → va_E} {a b : Nat} {h : Int → Int} {p : Int} (r : RW f b h p) (s : Sh f g) (t : SeT f g a) (o : Ob f a 0) (ne : b ≠ a) : RW g b h p := by
  obtain ⟨w, ⟨q, er, rk⟩, gb⟩ := r
  have e := t.1 b ne
  unfold RW
  rw [fI_of e, fI_of e, fI_of e, fI_of e, fI_of e, fI_of e, fR_of e]
  exact ⟨w, ⟨q, er, t.rk rk o⟩, gb⟩
theorem RB.st {f g : Nat → va_E} {a b : Nat} {h : Int → Int} {p : Int} (r : RB f b h p) (s : Sh f g) (t : SeT f g a) (o : Ob f a 0) (ne : b ≠ a) : RB g b h p := by
  refine ⟨r.1.st s t o ne, ?_⟩
  have e := t.1 b ne
  rw [fI_of e, fI_of e, fI_of e]
  exact r.2
theorem HWd_u {g : Int → Int} {p x : Int} (h : g (p + 9) < 0) : HWd g p x = updW g (p + 8) (x - 1) := if_pos h
theorem HWd_t {g : Int → Int} {p x : Int} (h : ¬ g (p + 9) < 0) : HWd g p x = updW g (p + 9) (cn (KG g p) 0 x) := if_neg h
theorem TWd_u {g : Int → Int} {p x : Int} (h : g (p + 9) < 0) : TWd g p x = updW g (p + 10) x := if_pos h
theorem TWd_t {g : Int → Int} {p x : Int} (h : ¬ g (p + 9) < 0) : TWd g p x = updW (updW g (p + 10) x) (p + 9) (cn (KG g p) 0 36525 - cn (KG g p) 0 x) := if_neg h
/-! ===== a Shelf that changes ===== -/
theorem aI_rU {f : Nat → va_E} {a b n : Nat} {cA : ClassId} {j i : Int} {v : Option Nat} (h : ArR f a cA n) : aI (rU f a j v) b i = aI f b i := by
  by_cases e : b = a
  · subst e
    obtain ⟨g, hg⟩ := h
    unfold aI
    rw [rU_eq hg, va_up_self, hg]
  · unfold aI; rw [rU_ne e]
/-- its size and its row of Bookings alone -/
def RM (f0 f : Nat → va_E) (a ar : Nat) : Prop := (∀ y k : Nat, (y ≠ a ∨ k ≠ 1) → fV f y k = fV f0 y k) ∧ (∀ (y : Nat) (j : Int), y ≠ ar → aR f y j = aR f0 y j) ∧ (∀ (y : Nat) (j : Int), aI f y j = aI f0 y j)
theorem RM.refl (f : Nat → va_E) (a ar : Nat) : RM f f a ar := ⟨fun _ _ _ => rfl, fun _ _ _ => rfl, fun _ _ => rfl⟩
theorem RM.put1 {f0 f g : Nat → va_E} {a ar : Nat} {v : Value} (h : RM f0 f a ar) (o : Ob f a 5) (e : g = pU f a 1 v) : RM f0 g a ar := by
  rw [e]
  exact ⟨fun y k q => (fV_pU q).trans (h.1 y k q), fun y j q => (aR_pU o).trans (h.2.1 y j q), fun y j => (aI_pU o).trans (h.2.2 y j)⟩
theorem RM.set {f0 f g : Nat → va_E} {a ar b n : Nat} {cA : ClassId} {j : Int} {v : Option Nat} (h : RM f0 f a ar) (o : ArR f b cA n) (eb : b = ar) (e : g = rU f b j v) : RM f0 g a ar := by
  rw [e]
  exact ⟨fun y k q => (fV_rU o).trans (h.1 y k q), fun y j q => (aR_rU_ne (fun z => q (z.trans eb))).trans (h.2.1 y j q), fun y j => (aI_rU o).trans (h.2.2 y j)⟩
theorem RM.ea {f0 f : Nat → va_E} {a ar : Nat} (h : RM f0 f a ar) (ea : fR f0 a 0 = some ar) : fR f a 0 = some ar := (fR_W (h.1 a 0 (Or.inr (by decide)))).trans ea
def RR (f : Nat → va_E) (ar : Nat) (rq : Int → Nat) : Prop := ∀ i : Int, 0 ≤ i → i < 12 → aR f ar i = some (rq i)
theorem RR.set {f g : Nat → va_E} {ar b n v : Nat} {cA : ClassId} {k : Int} {rq rq' : Int → Nat} (h : RR f ar rq) (o : ArR f b cA n) (eb : b = ar) (e : g = rU f b k (some v)) (k0 : 0 ≤ k) (hn : ∀ i : Int, i ≠ k → rq' i = rq i) (hk : rq' k = v) : RR g ar rq' := by
  rw [e, eb]
  rw [eb] at o
  intro i i0 i1
  by_cases q : i = k
  · rw [q, aR_rU_self o, hk]
  · rw [aR_rU_nj o k0 i0 q, hn i q]; exact h i i0 i1
theorem RR.pU {f g : Nat → va_E} {ar a k ci : Nat} {v : Value} {rq : Int → Nat} (h : RR f ar rq) (o : Ob f a ci) (e : g = Jvm.Pilot.CBookIndexLaw_law_r3826_022878.pU f a k v) : RR g ar rq := by
  rw [e]; exact fun i i0 i1 => (aR_pU o).trans (h i i0 i1)
def rmF (rq : Int → Nat) (c k : Int) : Int → Nat := fun i => if c ≤ i ∧ i < k then rq (i + 1) else rq i
def rmv (rq : Int → Nat) (c n : Int) : Int → Nat := fun i => if i < c then rq i else if i < n then rq (i + 1) else if i = n then rq c else rq i
theorem rm_start {f : Nat → va_E} {ar : Nat} {rq : Int → Nat} {c k : Int} (h : RR f ar rq) (e : k ≤ c) : RR f ar (rmF rq c k) := by
  intro i i0 i1
  unfold rmF
  rw [if_neg (by omega)]; exact h i i0 i1
theorem rm_get {f : Nat → va_E} {ar b r : Nat} {rq : Int → Nat} {c k i : Int} (h : RR f ar (rmF rq c k)) (eb : b = ar) (e : aR f b i = some r) (i0 : 0 ≤ i) (i1 : i < 12) (hk : k ≤ i) : r = rq i := by
  rw [eb] at e
  have := Option.some.inj (e.symm.trans (h i i0 i1))
  unfold rmF at this
  rw [if_neg (by omega)] at this
  exact this
theorem RR.get {f : Nat → va_E} {ar b r : Nat} {rq : Int → Nat} {i : Int} (h : RR f ar rq) (eb : b = ar) (e : aR f b i = some r) (i0 : 0 ≤ i) (i1 : i < 12) : r = rq i := by
  rw [eb] at e
  exact Option.some.inj (e.symm.trans (h i i0 i1))
theorem rm_step {f g : Nat → va_E} {ar b n v : Nat} {cA : ClassId} {c k k' : Int} {rq : Int → Nat} (h : RR f ar (rmF rq c k)) (o : ArR f b cA n) (eb : b = ar) (e : g = rU f b k (some v)) (gv : v = rq (k + 1)) (ck : c ≤ k) (k0 : 0 ≤ k) (ek : k' = k + 1) : RR g ar (rmF rq c k') := by
  refine h.set o eb e k0 (fun i q => ?_) ?_
  · unfold rmF
    by_cases z : c ≤ i ∧ i < k
    · rw [if_pos z, if_pos (by omega)]
    · rw [if_neg z, if_neg (by omega)]
  · unfold rmF; rw [if_pos (by omega)]; exact gv.symm
theorem rm_fin {f g : Nat → va_E} {ar b m v : Nat} {cA : ClassId} {c k n : Int} {rq : Int → Nat} (h : RR f ar (rmF rq c k)) (o : ArR f b cA m) (eb : b = ar) (e : g = rU f b n (some v)) (gv : v = rq c) (ck : c ≤ n) (n0 : 0 ≤ n) (ek : k = n) : RR g ar (rmv rq c n) := by
  subst ek
  refine h.set o eb e n0 (fun i q => ?_) ?_
  · unfold rmv rmF
    by_cases z : i < c
    · rw [if_pos z, if_neg (by omega)]
    · by_cases y : i < k
      · rw [if_neg z, if_pos y, if_pos (by omega)]
      · rw [if_neg z, if_neg y, if_neg q, if_neg (by omega)]
  · unfold rmv; rw [if_neg (by omega), if_neg (by omega), if_pos rfl]; exact gv.symm
/-- the size of a Shelf alone -/
def RK (f0 f : Nat → va_E) (a : Nat) : Prop := (∀ y k : Nat, (y ≠ a ∨ k ≠ 1) → fV f y k = fV f0 y k) ∧ (∀ (y : Nat) (j : Int), aR f y j = aR f0 y j) ∧ (∀ (y : Nat) (j : Int), aI f y j = aI f0 y j)
theorem RK.put {f g : Nat → va_E} {a : Nat} {v : Value} (o : Ob f a 5) (e : g = pU f a 1 v) : RK f g a := by
  rw [e]
  exact ⟨fun y k q => fV_pU q, fun y j => aR_pU o, fun y j => aI_pU o⟩
theorem rm_arg {f : Nat → va_E} {ar : Nat} {rq : Int → Nat} {c k k' : Int} (h : RR f ar (rmF rq c k)) (e : k' = k) : RR f ar (rmF rq c k') := by rw [e]; exact h
theorem rr_n {f : Nat → va_E} {ar : Nat} {rq : Int → Nat} {c n n' : Int} (h : RR f ar (rmv rq c n)) (e : n = n') : RR f ar (rmv rq c n') := by rw [← e]; exact h
/-! ===== a Shelf is copied ===== -/
def PS (a : Nat) (rq : Int → Nat) (y : Nat) : Prop := y = a ∨ ∃ i : Int, 0 ≤ i ∧ i < 12 ∧ y = rq i
theorem SR.fo {P : Nat → Prop} {cy : Cy} {f g : Nat → va_E} {sh : Nat} {rq : Int → Nat} {h : Int → Int} {m : Int} (r : SR f sh rq h m) (z : Fo P cy f g) (fr : Fr0 f g) (ns : ¬ P sh) (nb : ∀ i : Int, 0 ≤ i → i < 12 → ¬ P (rq i)) (hm : m ≤ 12) (nr : ∀ q : Nat, Rl f q → ¬ P q) : SR g sh rq h m := by
  obtain ⟨⟨o5, ⟨a, ea, ha⟩, ho, hi⟩, hs, hb⟩ := r
  refine ⟨⟨z.1.1 _ _ o5, ⟨a, (fR_W (z.2.2.1 _ _ _ ns o5 (by decide))).trans ea, fun i i0 i1 => (fr _ _).trans (ha i i0 i1)⟩, fun i i0 i1 => z.1.1 _ _ (ho i i0 i1), hi⟩, (fI_W (z.2.2.1 _ _ _ ns o5 (by decide))).trans hs, fun i i0 i1 => (hb i i0 i1).fo z (nb i i0 (by omega)) nr⟩
def CF (cy : Cy) (f0 f : Nat → va_E) (a0 a1 : Nat) (rq ro : Int → Nat) (g : Int → Int) (mm k : Int) : Prop := Fo (PS a0 rq) cy f0 f ∧ Fr0 f0 f ∧ fI f a0 1 = mm ∧ fR f a0 0 = fR f0 a0 0 ∧ SR f a1 ro g mm ∧ ∀ i : Int, 0 ≤ i → i < k → RB f (rq i) g (44 * i)
theorem nrl5 {f : Nat → va_E} {a : Nat} (o : Ob f a 5) : ∀ q : Nat, Rl f q → ¬ (q = a) := by
  intro q h e
  rw [e] at h
  rcases h with h | h | h | h
  · exact absurd (o.uniq h) (by decide)
  · exact absurd (o.uniq h) (by decide)
  · exact absurd (o.uniq h) (by decide)
  · exact absurd (o.uniq h) (by decide)
theorem CF.start {cy : Cy} {f0 g : Nat → va_E} {a0 a1 : Nat} {rq ro : Int → Nat} {h : Int → Int} {mm x : Int} (o0 : Ob f0 a0 5) (ne : a1 ≠ a0) (sr : SR f0 a1 ro h mm) (m1 : mm ≤ 12) (rx : rg x) (ex : x = mm) (e : g = pU f0 a0 1 (.int (iI x))) : CF cy f0 g a0 a1 rq ro h mm 0 := by
  have z1 : Fo (fun y => y = a0) cy f0 g := (Fo.refl _ cy f0).pU o0 rfl rfl e rfl
  have fr : Fr0 f0 g := fun y j => by rw [e]; exact aR_pU o0
  refine ⟨z1.mono (fun y q => Or.inl q), fr, ?_, ?_, ?_, fun i i0 i1 => by omega⟩
  · rw [e, fI_pU_self o0 rfl rx, ex]
  · rw [e, fR_pU (Or.inr (by decide))]
  · exact sr.fo z1 fr ne (fun i i0 i1 q => by have := sr.1.2.2.1 i i0 i1; rw [q] at this; exact absurd (o0.uniq this) (by decide)) m1 (nrl5 o0)
theorem CF.row {cy : Cy} {f0 f : Nat → va_E} {a0 a1 r x : Nat} {rq ro : Int → Nat} {h : Int → Int} {mm k i : Int} (c : CF cy f0 f a0 a1 rq ro h mm k) (sf : SF f0 a0 rq) (e1 : fR f a0 0 = some r) (e2 : aR f r i = some x) (i0 : 0 ≤ i) (i1 : i < 12) : x = rq i := by
  obtain ⟨a, ea, ha⟩ := sf.2.1
  have q := Option.some.inj (e1.symm.trans (c.2.2.2.1.trans ea))
  rw [q] at e2
  exact Option.some.inj (e2.symm.trans ((c.2.1 a i).trans (ha i i0 i1)))
theorem CF.step {cy : Cy} {f0 f f' : Nat → va_E} {a0 a1 x y : Nat} {rq ro : Int → Nat} {h : Int → Int} {mm k k' : Int} (c : CF cy f0 f a0 a1 rq ro h mm k) (sf : SF f0 a0 rq) (dj : ∀ i j : Int, 0 ≤ i → i < 12 → 0 ≤ j → j < 12 → rq i ≠ ro j) (o0 : Ob f a0 5) (o1 : Ob f a1 5) (ex : x = rq k) (ey : y = ro k) (ox : Ob f x 0) (k0 : 0 ≤ k) (km : k < mm) (m1 : mm ≤ 12) (z : Fo (fun q => q = x) cy f f') (fr : Fr0 f f') (hc : ∀ j : Nat, j < 11 → fV f' x j = fV f y j) (ek : k' = k + 1) : CF cy f0 f' a0 a1 rq ro h mm k' := by
  obtain ⟨c1, c2, c3, c4, c5, c6⟩ := c
  have n0 : ¬ (a0 = x) := fun q => by rw [← q] at ox; exact absurd (o0.uniq ox) (by decide)
  have n1 : ¬ (a1 = x) := fun q => by rw [← q] at ox; exact absurd (o1.uniq ox) (by decide)
  refine ⟨c1.trans (z.mono (fun q e => Or.inr ⟨k, k0, by omega, e.trans ex⟩)), fun q j => (fr q j).trans (c2 q j), ?_, ?_, ?_, fun i i0 i1 => ?_⟩
  · rw [fI_W (z.2.2.1 a0 5 1 n0 o0 (by decide))]; exact c3
  · rw [fR_W (z.2.2.1 a0 5 0 n0 o0 (by decide))]; exact c4
  · exact c5.fo z fr n1 (fun i i0 i1 q => dj k i k0 (by omega) i0 i1 (ex.symm.trans q.symm)) m1 (nrl ox)
  · by_cases q : i = k
    · rw [q, ← ex]
      have r := c5.2.2 k k0 km
      rw [← ey] at r
      exact r.copy hc (fun q k n s v w hh => hh.fo z (nrl ox))
    · refine (c6 i i0 (by omega)).fo z (fun e => q ?_) (nrl ox)
      exact sf.2.2.2 i k i0 (by omega) k0 (by omega) (e.trans ex)
theorem CF.done {cy : Cy} {f0 f : Nat → va_E} {a0 a1 : Nat} {rq ro : Int → Nat} {h : Int → Int} {mm k : Int} (c : CF cy f0 f a0 a1 rq ro h mm k) (sf : SF f0 a0 rq) (o0 : Ob f a0 5) (hk : mm ≤ k) : SR f a0 rq h mm ∧ SR f a1 ro h mm ∧ Fo (PS a0 rq) cy f0 f ∧ Fr0 f0 f := by
  obtain ⟨c1, c2, c3, c4, c5, c6⟩ := c
  obtain ⟨a, ea, ha⟩ := sf.2.1
  exact ⟨⟨⟨o0, ⟨a, c4.trans ea, fun i i0 i1 => (c2 a i).trans (ha i i0 i1)⟩, fun i i0 i1 => c1.1.1 _ _ (sf.2.2.1 i i0 i1), sf.2.2.2⟩, c3, fun i i0 i1 => c6 i i0 (by omega)⟩, c5, c1, c2⟩
theorem cf_arg {cy : Cy} {f0 f : Nat → va_E} {a0 a1 : Nat} {rq ro : Int → Nat} {h : Int → Int} {mm k k' : Int} (c : CF cy f0 f a0 a1 rq ro h mm k) (e : k' = k) : CF cy f0 f a0 a1 rq ro h mm k' := by rw [e]; exact c
theorem cf_ne {rq ro : Int → Nat} {x y : Nat} {k : Int} (dj : ∀ i j : Int, 0 ≤ i → i < 12 → 0 ≤ j → j < 12 → rq i ≠ ro j) (gx : x = rq k) (gy : y = ro k) (k0 : 0 ≤ k) (k1 : k < 12) : y ≠ x := fun q => dj k k k0 k1 k0 k1 (gx.symm.trans (q.symm.trans gy))
/-! ===== the BookIndex: cancel, split ===== -/
theorem cn_ex {p : Int → Prop} {a b : Int} (h : cn p a b ≠ 0) : ∃ d : Int, a ≤ d ∧ d < b ∧ p d := by
  rcases Classical.em (∃ d : Int, a ≤ d ∧ d < b ∧ p d) with c | c
  · exact c
  · exact absurd (cn_none (fun d h1 h2 h3 => c ⟨d, h1, h2, h3⟩)) h
theorem row_ne {rq : Int → Nat} {x y : Nat} {i j : Int} (inj : ∀ i j : Int, 0 ≤ i → i < 12 → 0 ≤ j → j < 12 → rq i = rq j → i = j) (gx : x = rq i) (gy : y = rq j) (i0 : 0 ≤ i) (i1 : i < 12) (j0 : 0 ≤ j) (j1 : j < 12) (ne : i ≠ j) : y ≠ x := fun q => ne (inj i j i0 i1 j0 j1 (gx.symm.trans (q.symm.trans gy)))
theorem fsz {cy : Cy} {f g : Nat → va_E} {sh : Nat} {rq : Int → Nat} {i j : Int} (z : Fo (fun y => y = rq i ∨ y = rq j) cy f g) (o : Ob f sh 5) (ho : ∀ i : Int, 0 ≤ i → i < 12 → Ob f (rq i) 0) (i0 : 0 ≤ i) (i1 : i < 12) (j0 : 0 ≤ j) (j1 : j < 12) : fI g sh 1 = fI f sh 1 :=
  fI_W (z.2.2.1 sh 5 1 (fun h => h.elim (fun e => by have := ho i i0 i1; rw [← e] at this; exact absurd (o.uniq this) (by decide)) (fun e => by have := ho j j0 j1; rw [← e] at this; exact absurd (o.uniq this) (by decide))) o (by decide))
theorem split_end {cy : Cy} {f0 f9 f1 : Nat → va_E} {a0 sh s' : Nat} {rq : Int → Nat} {g : Int → Int} {mm r x1 x2 : Int} (e : fI f1 s' 1 = fI f9 s' 1 + 1 ∧ r = fI f9 s' 1 ∧ RK f9 f1 s') (es : some s' = some sh) (sz : fI f9 sh 1 = fI f0 sh 1) (sm : fI f0 sh 1 = mm) (h1 : 0 ≤ x1) (h2 : x1 < mm) (h3 : 0 ≤ x2) (h4 : x2 ≤ 36524) (h5 : mm < 12) (h6 : cn (KG g (44 * x1)) 0 x2 ≠ 0) (h7 : cn (KG g (44 * x1)) x2 36525 ≠ 0) (h8 : 0 ≤ mm) (e2 : fR f0 a0 2 = some sh) (cF : Fo (fun y => y = rq x1 ∨ y = rq mm) cy f0 f9) (cR : Fr0 f0 f9) (ca : RB f9 (rq x1) (HWd g (44 * x1) x2) (44 * x1)) (ct : RB f9 (rq mm) (TWd g (44 * x1) x2) (44 * x1)) :
    (r = -1 ∧ (x1 < 0 ∨ mm ≤ x1 ∨ x2 < 0 ∨ 36524 < x2 ∨ 12 ≤ mm ∨ cn (KG g (44 * x1)) 0 x2 = 0 ∨ cn (KG g (44 * x1)) x2 36525 = 0) ∧ f1 = f0) ∨ (r = mm ∧ 0 ≤ x1 ∧ x1 < mm ∧ 0 ≤ x2 ∧ x2 ≤ 36524 ∧ mm < 12 ∧ cn (KG g (44 * x1)) 0 x2 ≠ 0 ∧ cn (KG g (44 * x1)) x2 36525 ≠ 0 ∧ ∃ (sh : Nat) (f9 : Nat → va_E), fR f0 a0 2 = some sh ∧ Fo (fun y => y = rq x1 ∨ y = rq mm) cy f0 f9 ∧ Fr0 f0 f9 ∧ RB f9 (rq x1) (HWd g (44 * x1) x2) (44 * x1) ∧ RB f9 (rq mm) (TWd g (44 * x1) x2) (44 * x1) ∧ RK f9 f1 sh ∧ fI f1 sh 1 = mm + 1) := by
  have es := Option.some.inj es
  subst es
  obtain ⟨e1, e3, e4⟩ := e
  exact Or.inr ⟨by omega, h1, h2, h3, h4, h5, h6, h7, s', f9, e2, cF, cR, ca, ct, e4, by omega⟩
/-! ===== the reference's cancel and split ===== -/
theorem kg_ref {g : Int → Int} {p : Int} (h : -1 ≤ g (p + 8)) : KG g p = Ky (onK (g (p + 3)) (g (p + 4)) (g (p + 5)) (g (p + 6)) (g (p + 7))) (g (p + 10)) (UN g p) (g (p + 9)) := by
  have e : HI (g (p + 8)) = UN g p := by
    unfold HI UN
    by_cases c : g (p + 8) = -1
    · rw [if_pos c, if_pos (by omega)]
    · rw [if_neg c, if_neg (by omega)]
  unfold KG
  rw [e]
theorem KL.cntN {K : Int → Prop} {k : Int → Int} {n : Int} (h : KL K k n) (hr : ∀ d : Int, K d → 0 ≤ d ∧ d ≤ 36524) (j : Nat) : (j : Int) ≤ n → (j : Int) = cn K 0 (kAt k n j) := by
  have b : ∀ i : Int, 0 ≤ i → kAt k n i ≤ 36525 := by
    intro i i0
    unfold kAt
    split
    · have := (hr _ (h.2.1 i i0 (by assumption))).2; omega
    · omega
  induction j with
  | zero =>
    intro _
    have z := h.cnt0 (a := 0) (b := 36524)
    have := b 0 (by omega)
    rw [show min (kAt k n 0) (36524 + 1) = kAt k n 0 by omega] at z
    exact z
  | succ j ih =>
    intro hj
    have z := h.step (a := 0) (b := 36524) (fun d q => (hr d q).2) (by omega) (show (0 : Int) ≤ (j : Int) by omega) (by omega)
    have e : kAt k n (j : Int) = k (j : Int) := by unfold kAt; rw [if_pos (by omega)]
    have q := hr _ (h.2.1 (j : Int) (by omega) (by omega))
    have b1 := b ((j : Int) + 1) (by omega)
    rw [show min (kAt k n ((j : Int) + 1)) (36524 + 1) = kAt k n ((j : Int) + 1) by omega, show min (k (j : Int)) (36524 + 1) = k (j : Int) by omega, if_pos ⟨q.1, q.2⟩] at z
    have y := ih (by omega)
    rw [e] at y
    rw [show ((j + 1 : Nat) : Int) = (j : Int) + 1 by omega, z, ← y]
theorem KL.cntA {K : Int → Prop} {k : Int → Int} {n a i : Int} (h : KL K k n) (hr : ∀ d : Int, K d → 0 ≤ d ∧ d ≤ 36524) (a0 : 0 ≤ a) (a1 : a ≤ 36525) (i0 : 0 ≤ i) (i1 : i ≤ n) (lo : ∀ j : Int, 0 ≤ j → j < i → k j < a) (hi : n ≤ i ∨ a ≤ k i) : i = cn K 0 a ∧ n = cn K 0 36525 ∧ n = cn K 0 a + cn K a 36525 := by
  have z1 := h.cntN hr i.toNat (by omega)
  rw [show ((i.toNat : Nat) : Int) = i by omega] at z1
  have z2 := h.cntN hr n.toNat (by have := h.1; omega)
  have n0 := h.1
  rw [show ((n.toNat : Nat) : Int) = n by omega, show kAt k n n = 36525 by unfold kAt; rw [if_neg (by omega)]] at z2
  have ka : a ≤ kAt k n i := by
    unfold kAt
    split
    · rcases hi with q | q <;> omega
    · exact a1
  have z3 := cn_add (p := K) (a := 0) (b := a) (c := kAt k n i) a0 ka
  have z4 : cn K a (kAt k n i) = 0 := cn_none (fun d g1 g2 kd => by
    obtain ⟨j, j0, j1, j2⟩ := h.2.2.2 d kd
    rcases Int.lt_or_le j i with q | q
    · have := lo j j0 q; omega
    · unfold kAt at g2
      rw [if_pos (by omega)] at g2
      rcases Int.lt_or_le i j with q2 | q2
      · have := h.2.2.1 i j i0 q2 j1; omega
      · have e : j = i := by omega
        rw [e] at j2; omega)
  have z5 := cn_add (p := K) (a := 0) (b := a) (c := 36525) a0 a1
  exact ⟨by omega, z2, by omega⟩
theorem wa_t {g g' : Int → Int} {p x a : Int} (h9 : ¬ g (p + 9) < 0) (e9 : g' (p + 9) = a) (ea : a = cn (KG g p) 0 x) (e : ∀ j : Int, 0 ≤ j → j ≤ 10 → j ≠ 9 → g' (p + j) = g (p + j)) : ∀ j : Int, 0 ≤ j → j ≤ 10 → g' (p + j) = HWd g p x (p + j) := by
  intro j j0 j1
  rw [HWd_t h9]
  by_cases q : j = 9
  · rw [q, updW_s, e9, ea]
  · rw [updW_n (by omega)]; exact e j j0 j1 q
theorem wa_u {g g' : Int → Int} {p x : Int} (h9 : g (p + 9) < 0) (e8 : g' (p + 8) = x - 1) (e : ∀ j : Int, 0 ≤ j → j ≤ 10 → j ≠ 8 → g' (p + j) = g (p + j)) : ∀ j : Int, 0 ≤ j → j ≤ 10 → g' (p + j) = HWd g p x (p + j) := by
  intro j j0 j1
  rw [HWd_u h9]
  by_cases q : j = 8
  · rw [q, updW_s, e8]
  · rw [updW_n (by omega)]; exact e j j0 j1 q
theorem wb_t {g g' : Int → Int} {p q x b : Int} (h9 : ¬ g (p + 9) < 0) (e9 : g' (q + 9) = b) (eb : b = cn (KG g p) 0 36525 - cn (KG g p) 0 x) (e10 : g' (q + 10) = x) (e : ∀ j : Int, 0 ≤ j → j ≤ 10 → j ≠ 9 → j ≠ 10 → g' (q + j) = g (p + j)) : ∀ j : Int, 0 ≤ j → j ≤ 10 → g' (q + j) = TWd g p x (p + j) := by
  intro j j0 j1
  rw [TWd_t h9]
  by_cases z : j = 9
  · rw [z, updW_s, e9, eb]
  · rw [updW_n (by omega)]
    by_cases y : j = 10
    · rw [y, updW_s, e10]
    · rw [updW_n (by omega)]; exact e j j0 j1 z y
theorem wb_u {g g' : Int → Int} {p q x : Int} (h9 : g (p + 9) < 0) (e10 : g' (q + 10) = x) (e : ∀ j : Int, 0 ≤ j → j ≤ 10 → j ≠ 10 → g' (q + j) = g (p + j)) : ∀ j : Int, 0 ≤ j → j ≤ 10 → g' (q + j) = TWd g p x (p + j) := by
  intro j j0 j1
  rw [TWd_u h9]
  by_cases y : j = 10
  · rw [y, updW_s, e10]
  · rw [updW_n (by omega)]; exact e j j0 j1 y
/-! ===== a new Shelf: its rows are new and apart ===== -/
theorem SF.made {f : Nat → va_E} {a R : Nat} {L : List Nat} (o : Ob f a 5) (w : fR f a 0 = some R) (hrow : ∀ j : Int, 0 ≤ j → j < 12 → ∃ b, aR f R j = some b ∧ Ob f b 0) (hdis : ∀ j k : Int, 0 ≤ j → j < k → k < 12 → aR f R j ≠ aR f R k) (hfr : ∀ (j : Int) (b : Nat), 0 ≤ j → j < 12 → aR f R j = some b → b ∉ L) : ∃ rq : Int → Nat, SF f a rq ∧ ∀ i : Int, 0 ≤ i → i < 12 → rq i ∉ L := by
  have g : ∀ j : Int, 0 ≤ j → j < 12 → aR f R j = some ((aR f R j).getD 0) := by
    intro j h0 h1
    obtain ⟨b, q1, q2⟩ := hrow j h0 h1
    rw [q1]; rfl
  refine ⟨fun j => (aR f R j).getD 0, ⟨o, ⟨R, w, g⟩, fun i i0 i1 => ?_, fun i j i0 i1 j0 j1 e => ?_⟩, fun i i0 i1 => hfr i _ i0 i1 (g i i0 i1)⟩
  · obtain ⟨b, q1, q2⟩ := hrow i i0 i1
    show Ob f ((aR f R i).getD 0) 0
    rw [q1]; exact q2
  · have e2 : aR f R i = aR f R j := by rw [g i i0 i1, g j j0 j1]; exact congrArg some e
    rcases Int.lt_trichotomy i j with q | q | q
    · exact absurd e2 (hdis i j i0 q j1)
    · exact q
    · exact absurd e2.symm (hdis j i j0 q i1)
theorem SF.off {cy : Cy} {M : List Nat} {f g : Nat → va_E} {sh : Nat} {rq : Int → Nat} (hg : GI cy M f) (ms : sh ∈ M) (sf : SF f sh rq) (e : ∀ x ∈ M, g x = f x) : SF g sh rq := by
  obtain ⟨o5, ⟨a, ea, ha⟩, ho, hi⟩ := sf
  obtain ⟨r, r1, r2, r3⟩ := (show ∃ r, fR f sh 0 = some r ∧ r ∈ M ∧ ArR f r cy.2.2.2.1 12 from hg.2.1 _ ms 5 0 o5)
  have ra : r = a := Option.some.inj (r1.symm.trans ea)
  rw [ra] at r2 r3
  have hb : ∀ i : Int, 0 ≤ i → i < 12 → rq i ∈ M := by
    intro i i0 i1
    obtain ⟨b, b1, b2, b3⟩ := hg.2.2.1 a r2 i r3 i0 i1
    rw [← Option.some.inj (b1.symm.trans (ha i i0 i1))]; exact b2
  exact ⟨Ob_of (e sh ms) o5, ⟨a, (fR_of (e sh ms)).trans ea, fun i i0 i1 => (aR_of (e a r2)).trans (ha i i0 i1)⟩, fun i i0 i1 => Ob_of (e _ (hb i i0 i1)) (ho i i0 i1), hi⟩
theorem sf_ne {f : Nat → va_E} {a b : Nat} {rq ro : Int → Nat} (s : SF f a rq) (t : SF f b ro) (dj : ∀ i j : Int, 0 ≤ i → i < 12 → 0 ≤ j → j < 12 → rq i ≠ ro j) : b ≠ a := by
  intro e
  rw [e] at t
  obtain ⟨x, ex, hx⟩ := s.2.1
  obtain ⟨y, ey, hy⟩ := t.2.1
  rw [Option.some.inj (ey.symm.trans ex)] at hy
  exact dj 0 0 (by decide) (by decide) (by decide) (by decide) (Option.some.inj ((hx 0 (by decide) (by decide)).symm.trans (hy 0 (by decide) (by decide))))
theorem shelf_in {cy : Cy} {M : List Nat} {f : Nat → va_E} {x sh : Nat} (hg : GI cy M f) (mx : x ∈ M) (ox : Ob f x 7) (e : fR f x 2 = some sh) : sh ∈ M ∧ Ob f sh 5 := by
  obtain ⟨r, r1, r2, r3⟩ := (show ∃ r, fR f x 2 = some r ∧ r ∈ M ∧ Ob f r 5 from hg.2.1 _ mx 7 2 ox)
  rw [← Option.some.inj (r1.symm.trans e)]
  exact ⟨r2, r3⟩
theorem rows_of {cy : Cy} {M : List Nat} {f : Nat → va_E} {sh : Nat} {rq : Int → Nat} (hg : GI cy M f) (ms : sh ∈ M) (sf : SF f sh rq) : ∃ a : Nat, fR f sh 0 = some a ∧ a ∈ M ∧ ArR f a cy.2.2.2.1 12 ∧ ∀ i : Int, 0 ≤ i → i < 12 → aR f a i = some (rq i) ∧ rq i ∈ M := by
  obtain ⟨o5, ⟨a, ea, ha⟩, ho, hi⟩ := sf
  obtain ⟨r, r1, r2, r3⟩ := (show ∃ r, fR f sh 0 = some r ∧ r ∈ M ∧ ArR f r cy.2.2.2.1 12 from hg.2.1 _ ms 5 0 o5)
  have ra : r = a := Option.some.inj (r1.symm.trans ea)
  rw [ra] at r2 r3
  refine ⟨a, ea, r2, r3, fun i i0 i1 => ⟨ha i i0 i1, ?_⟩⟩
  obtain ⟨b, b1, b2, b3⟩ := hg.2.2.1 a r2 i r3 i0 i1
  rw [← Option.some.inj (b1.symm.trans (ha i i0 i1))]; exact b2
theorem rows_in {cy : Cy} {M : List Nat} {f : Nat → va_E} {x sh : Nat} {rq : Int → Nat} {g : Int → Int} {m : Int} (hg : GI cy M f) (mx : x ∈ M) (ox : Ob f x 7) (e : fR f x 2 = some sh) (sr : SR f sh rq g m) : ∀ j : Int, 0 ≤ j → j < 12 → rq j ∈ M := by
  intro j j0 j1
  obtain ⟨a, -, -, -, h⟩ := rows_of hg (shelf_in hg mx ox e).1 sr.1
  exact (h j j0 j1).2
/-- cells that stay, but for one row of images -/
theorem RB.off {cy : Cy} {M : List Nat} {f g : Nat → va_E} {b im : Nat} {h : Int → Int} {p : Int} {cI : ClassId} (r : RB f b h p) (hg : GI cy M f) (mb : b ∈ M) (ob : Ob f b 0) (oi : ArR f im cI 2) (e : ∀ x ∈ M, x ≠ im → g x = f x) : RB g b h p := by
  have nb : b ≠ im := fun z => by rw [← z] at oi; exact ob.notR oi
  have eb := e b mb nb
  obtain ⟨⟨w, ⟨q, er, rk⟩, gb⟩, bd, tt⟩ := r
  obtain ⟨r, r1, r2, r3⟩ := (show ∃ r, fR f b 3 = some r ∧ r ∈ M ∧ Rl f r from hg.2.1 _ mb 0 3 ob)
  have rq : r = q := Option.some.inj (r1.symm.trans er)
  rw [rq] at r2
  have nq : q ≠ im := fun z => by
    rw [← z] at oi
    rcases rk.rl with o | o | o | o <;> exact o.notR oi
  unfold RB RW
  rw [fI_of eb, fI_of eb, fI_of eb, fI_of eb, fI_of eb, fI_of eb, fI_of eb, fI_of eb, fI_of eb, fR_of eb]
  exact ⟨⟨w, ⟨q, er, rk.of (e q r2 nq)⟩, gb⟩, bd, tt⟩
theorem SR.offS {cy : Cy} {M : List Nat} {f g : Nat → va_E} {sh im : Nat} {rq : Int → Nat} {h : Int → Int} {m : Int} {cI : ClassId} (sr : SR f sh rq h m) (hg : GI cy M f) (ms : sh ∈ M) (oi : ArR f im cI 2) (hm : m ≤ 12) (e : ∀ x ∈ M, x ≠ im → g x = f x) : SR g sh rq h m := by
  obtain ⟨a, ea, ma, oa, ha⟩ := rows_of hg ms sr.1
  obtain ⟨⟨o5, -, ho, hi⟩, hs, hb⟩ := sr
  have ns : sh ≠ im := fun z => by rw [← z] at oi; exact o5.notR oi
  have na : a ≠ im := fun z => by rw [z] at oa; exact absurd (oa.uniq oi).2 (by decide)
  have nb : ∀ i : Int, 0 ≤ i → i < 12 → rq i ≠ im := fun i i0 i1 z => by have := ho i i0 i1; rw [z] at this; exact this.notR oi
  refine ⟨⟨Ob_of (e sh ms ns) o5, ⟨a, (fR_of (e sh ms ns)).trans ea, fun i i0 i1 => (aR_of (e a ma na)).trans (ha i i0 i1).1⟩, fun i i0 i1 => Ob_of (e _ (ha i i0 i1).2 (nb i i0 i1)) (ho i i0 i1), hi⟩, (fI_of (e sh ms ns)).trans hs, fun i i0 i1 => (hb i i0 i1).off hg (ha i i0 (by omega)).2 (ho i i0 (by omega)) oi e⟩
theorem SR.off {cy : Cy} {M : List Nat} {f g : Nat → va_E} {x sh im : Nat} {rq : Int → Nat} {h : Int → Int} {m : Int} {cI : ClassId} (sr : SR f sh rq h m) (hg : GI cy M f) (mx : x ∈ M) (ox : Ob f x 7) (es : fR f x 2 = some sh) (oi : ArR f im cI 2) (hm : m ≤ 12) (e : ∀ x ∈ M, x ≠ im → g x = f x) : SR g sh rq h m := sr.offS hg (shelf_in hg mx ox es).1 oi hm e
theorem SF.rU2 {cy : Cy} {M : List Nat} {f g : Nat → va_E} {sh im : Nat} {rq : Int → Nat} {cI : ClassId} {j : Int} {v : Option Nat} (sf : SF f sh rq) (hg : GI cy M f) (ms : sh ∈ M) (oi : ArR f im cI 2) (e : g = rU f im j v) : SF g sh rq := by
  obtain ⟨a, ea, ma, oa, ha⟩ := rows_of hg ms sf
  obtain ⟨o5, -, ho, hi⟩ := sf
  have na : a ≠ im := fun z => by rw [z] at oa; exact absurd (oa.uniq oi).2 (by decide)
  rw [e]
  exact ⟨Ob_rU oi o5, ⟨a, (fR_rU oi).trans ea, fun i i0 i1 => (aR_rU_ne na).trans (ha i i0 i1).1⟩, fun i i0 i1 => Ob_rU oi (ho i i0 i1), hi⟩
