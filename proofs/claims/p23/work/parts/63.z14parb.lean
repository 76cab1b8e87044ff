/-! ===== weekdays, months, rules of the text ===== -/
def p2 (w : Int) : Int := ((2 ^ w.toNat : Nat) : Int)
noncomputable def wkF (T : Int → Int) (n : Int) : Nat → Int → Int → Int × Int × Int
  | 0, e, s => (0, s, e)
  | k + 1, e, s => if wdv T n e = -1 then ((if s = 0 then 8 * tP T n e + 1 else 0), s, e) else if wb s (wdv T n e) = true then (8 * tP T n e + 2, s, e) else wkF T n k (tQ T n e) (s + p2 (wdv T n e))
theorem wk_stop {T : Int → Int} {n e s : Int} {k : Nat} (hk : 0 < k) (h : wdv T n e = -1) : wkF T n k e s = ((if s = 0 then 8 * tP T n e + 1 else 0), s, e) := by
  obtain ⟨j, rfl⟩ : ∃ j, k = j + 1 := ⟨k - 1, by omega⟩
  show (if wdv T n e = -1 then _ else _) = _
  rw [if_pos h]
theorem wk_dup {T : Int → Int} {n e s : Int} {k : Nat} (hk : 0 < k) (h : wdv T n e ≠ -1) (g : wb s (wdv T n e) = true) : wkF T n k e s = (8 * tP T n e + 2, s, e) := by
  obtain ⟨j, rfl⟩ : ∃ j, k = j + 1 := ⟨k - 1, by omega⟩
  show (if wdv T n e = -1 then _ else if wb s (wdv T n e) = true then _ else _) = _
  rw [if_neg h, if_pos g]
theorem wk_go {T : Int → Int} {n e s : Int} {k j : Nat} (hk : k = j + 1) (h : wdv T n e ≠ -1) (g : wb s (wdv T n e) = false) : wkF T n k e s = wkF T n j (tQ T n e) (s + p2 (wdv T n e)) := by
  subst hk
  show (if wdv T n e = -1 then _ else if wb s (wdv T n e) = true then _ else _) = _
  rw [if_neg h, if_neg (by rw [g]; decide)]
theorem or_tab : ∀ a : Nat, a < 128 → ∀ b : Nat, b < 7 → ((iI (a : Int) &&& iI ((iI 1 <<< (iI (b : Int) &&& 31)).toInt)).toInt = 0 ↔ wb (a : Int) (b : Int) = false) ∧ (wb (a : Int) (b : Int) = false → (iI (a : Int) ||| iI ((iI 1 <<< (iI (b : Int) &&& 31)).toInt)).toInt = (a : Int) + p2 (b : Int) ∧ (a : Int) + p2 (b : Int) ≤ 127 ∧ 1 ≤ p2 (b : Int) ∧ bcU ((a : Int) + p2 (b : Int)) 7 = bcU (a : Int) 7 + 1) := by decide +kernel
theorem or_at {s w x y z : Int} (s0 : 0 ≤ s) (s1 : s ≤ 127) (w0 : 0 ≤ w) (w1 : w ≤ 6) (ex : x = (iI 1 <<< (iI w &&& 31)).toInt) (ey : y = (iI s &&& iI x).toInt) : (y = 0 ↔ wb s w = false) ∧ (wb s w = false → (z = (iI s ||| iI x).toInt → z = s + p2 w) ∧ s + p2 w ≤ 127 ∧ 1 ≤ p2 w ∧ bcU (s + p2 w) 7 = bcU s 7 + 1) := by
  have t := or_tab s.toNat (by omega) w.toNat (by omega)
  rw [show ((s.toNat : Nat) : Int) = s by omega, show ((w.toNat : Nat) : Int) = w by omega] at t
  rw [← ex] at t
  refine ⟨by rw [ey]; exact t.1, fun h => ⟨fun q => q.trans (t.2 h).1, (t.2 h).2.1, (t.2 h).2.2.1, (t.2 h).2.2.2⟩⟩
noncomputable def wdS (T : Int → Int) (n e : Int) : Int := if wdv T n e = -1 then 8 * tP T n e + 1 else 0
noncomputable def moF (T : Int → Int) (n e : Int) : Int :=
  if wS T n e wOn = 0 then nS T n (tQn T n 1 e) 1 31 else if wS T n e wEnd = 0 then nS T n (tQn T n 1 e) 1 28 else
  if wS T n e wNth = 0 then (if nS T n (tQn T n 1 e) 1 5 ≠ 0 then nS T n (tQn T n 1 e) 1 5 else wdS T n (tQn T n 2 e)) else
  if wS T n e wLast ≠ 0 then wS T n e wLast else wdS T n (tQn T n 1 e)
noncomputable def moK (T : Int → Int) (n e : Int) : Int := if wS T n e wOn = 0 then 3 else if wS T n e wEnd = 0 then 4 else if wS T n e wNth = 0 then 5 else 6
noncomputable def moV (T : Int → Int) (n e : Int) : Int := if wS T n e wOn = 0 then vN T n (tQn T n 1 e) else if wS T n e wEnd = 0 then vN T n (tQn T n 1 e) else if wS T n e wNth = 0 then vN T n (tQn T n 1 e) else 0
noncomputable def moW (T : Int → Int) (n e : Int) : Int := if wS T n e wOn = 0 then 0 else if wS T n e wEnd = 0 then 0 else if wS T n e wNth = 0 then wdv T n (tQn T n 2 e) else wdv T n (tQn T n 1 e)
noncomputable def moE (T : Int → Int) (n e : Int) : Int := if wS T n e wOn = 0 then tQn T n 2 e else if wS T n e wEnd = 0 then tQn T n 2 e else if wS T n e wNth = 0 then tQn T n 3 e else tQn T n 2 e
noncomputable def ruF (T : Int → Int) (n e : Int) : Int :=
  if wS T n e wOnce = 0 then 0 else if wS T n e wEvery ≠ 0 then wS T n e wEvery else if nS T n (tQn T n 1 e) 1 999 ≠ 0 then nS T n (tQn T n 1 e) 1 999 else
  if wS T n (tQn T n 2 e) wDays = 0 then 0 else if wS T n (tQn T n 2 e) wYears = 0 then 0 else if wS T n (tQn T n 2 e) wWeeks = 0 then (wkF T n 8 (tQn T n 3 e) 0).1 else
  if wS T n (tQn T n 2 e) wMonths ≠ 0 then wS T n (tQn T n 2 e) wMonths else moF T n (tQn T n 3 e)
noncomputable def ruK (T : Int → Int) (n e : Int) : Int := if wS T n e wOnce = 0 then 0 else if wS T n (tQn T n 2 e) wDays = 0 then 1 else if wS T n (tQn T n 2 e) wYears = 0 then 7 else if wS T n (tQn T n 2 e) wWeeks = 0 then 2 else moK T n (tQn T n 3 e)
noncomputable def ruN (T : Int → Int) (n e : Int) : Int := if wS T n e wOnce = 0 then 0 else vN T n (tQn T n 1 e)
noncomputable def ruV (T : Int → Int) (n e : Int) : Int := if wS T n e wOnce = 0 then 0 else if wS T n (tQn T n 2 e) wDays = 0 then 0 else if wS T n (tQn T n 2 e) wYears = 0 then 0 else if wS T n (tQn T n 2 e) wWeeks = 0 then (wkF T n 8 (tQn T n 3 e) 0).2.1 else moV T n (tQn T n 3 e)
noncomputable def ruW (T : Int → Int) (n e : Int) : Int := if wS T n e wOnce = 0 then 0 else if wS T n (tQn T n 2 e) wDays = 0 then 0 else if wS T n (tQn T n 2 e) wYears = 0 then 0 else if wS T n (tQn T n 2 e) wWeeks = 0 then 0 else moW T n (tQn T n 3 e)
noncomputable def ruE (T : Int → Int) (n e : Int) : Int := if wS T n e wOnce = 0 then tQn T n 1 e else if wS T n (tQn T n 2 e) wDays = 0 then tQn T n 3 e else if wS T n (tQn T n 2 e) wYears = 0 then tQn T n 3 e else if wS T n (tQn T n 2 e) wWeeks = 0 then (wkF T n 8 (tQn T n 3 e) 0).2.2 else moE T n (tQn T n 3 e)
theorem RS.put {T : Int → Int} {n e : Int} {f g : Nat → va_E} {a k : Nat} {v : Value} (h : RS T n f a e) (eg : g = pU f a k v) (hk : 5 ≤ k) : RS T n g a e := by
  rw [eg]
  exact ⟨(fI_pU (Or.inr (by omega))).trans h.1, (fI_pU (Or.inr (by omega))).trans h.2.1, (fI_pU (Or.inr (by omega))).trans h.2.2⟩
/-- the reader's numbers that a rule is told with -/
def K69 (f : Nat → va_E) (a : Nat) (F k n v w : Int) : Prop := fI f a 5 = F ∧ fI f a 6 = k ∧ fI f a 7 = n ∧ fI f a 8 = v ∧ fI f a 9 = w
theorem K69.k5 {f g : Nat → va_E} {a : Nat} {F k n v w : Int} (h : K69 f a F k n v w) (q : K5 f g a) : K69 g a F k n v w := ⟨q.1.trans h.1, q.2.1.trans h.2.1, q.2.2.1.trans h.2.2.1, q.2.2.2.1.trans h.2.2.2.1, q.2.2.2.2.trans h.2.2.2.2⟩
theorem K69.p6 {f g : Nat → va_E} {a : Nat} {F k n v w x y : Int} (h : K69 f a F k n v w) (o : Ob f a 4) (rx : rg x) (e : g = pU f a 6 (.int (iI x))) (ey : x = y) : K69 g a F y n v w := by
  rw [e, ← ey]
  exact ⟨(fI_pU (Or.inr (by decide))).trans h.1, fI_pU_self o rfl rx, (fI_pU (Or.inr (by decide))).trans h.2.2.1, (fI_pU (Or.inr (by decide))).trans h.2.2.2.1, (fI_pU (Or.inr (by decide))).trans h.2.2.2.2⟩
theorem K69.p7 {f g : Nat → va_E} {a : Nat} {F k n v w x y : Int} (h : K69 f a F k n v w) (o : Ob f a 4) (rx : rg x) (e : g = pU f a 7 (.int (iI x))) (ey : x = y) : K69 g a F k y v w := by
  rw [e, ← ey]
  exact ⟨(fI_pU (Or.inr (by decide))).trans h.1, (fI_pU (Or.inr (by decide))).trans h.2.1, fI_pU_self o rfl rx, (fI_pU (Or.inr (by decide))).trans h.2.2.2.1, (fI_pU (Or.inr (by decide))).trans h.2.2.2.2⟩
theorem K69.p8 {f g : Nat → va_E} {a : Nat} {F k n v w x y : Int} (h : K69 f a F k n v w) (o : Ob f a 4) (rx : rg x) (e : g = pU f a 8 (.int (iI x))) (ey : x = y) : K69 g a F k n y w := by
  rw [e, ← ey]
  exact ⟨(fI_pU (Or.inr (by decide))).trans h.1, (fI_pU (Or.inr (by decide))).trans h.2.1, (fI_pU (Or.inr (by decide))).trans h.2.2.1, fI_pU_self o rfl rx, (fI_pU (Or.inr (by decide))).trans h.2.2.2.2⟩
theorem K69.p9 {f g : Nat → va_E} {a : Nat} {F k n v w x y : Int} (h : K69 f a F k n v w) (o : Ob f a 4) (rx : rg x) (e : g = pU f a 9 (.int (iI x))) (ey : x = y) : K69 g a F k n v y := by
  rw [e, ← ey]
  exact ⟨(fI_pU (Or.inr (by decide))).trans h.1, (fI_pU (Or.inr (by decide))).trans h.2.1, (fI_pU (Or.inr (by decide))).trans h.2.2.1, (fI_pU (Or.inr (by decide))).trans h.2.2.2.1, fI_pU_self o rfl rx⟩
theorem mo_on {T : Int → Int} {n e : Int} (h : wS T n e wOn = 0) : moF T n e = nS T n (tQn T n 1 e) 1 31 ∧ moK T n e = 3 ∧ moV T n e = vN T n (tQn T n 1 e) ∧ moW T n e = 0 ∧ moE T n e = tQn T n 2 e := by
  unfold moF moK moV moW moE; rw [if_pos h, if_pos h, if_pos h, if_pos h, if_pos h]; exact ⟨rfl, rfl, rfl, rfl, rfl⟩
theorem mo_end' {T : Int → Int} {n e : Int} (g : wS T n e wOn ≠ 0) (h : wS T n e wEnd = 0) : moF T n e = nS T n (tQn T n 1 e) 1 28 ∧ moK T n e = 4 ∧ moV T n e = vN T n (tQn T n 1 e) ∧ moW T n e = 0 ∧ moE T n e = tQn T n 2 e := by
  unfold moF moK moV moW moE; rw [if_neg g, if_neg g, if_neg g, if_neg g, if_neg g, if_pos h, if_pos h, if_pos h, if_pos h, if_pos h]; exact ⟨rfl, rfl, rfl, rfl, rfl⟩
theorem mo_nth {T : Int → Int} {n e : Int} (g : wS T n e wOn ≠ 0) (g2 : wS T n e wEnd ≠ 0) (h : wS T n e wNth = 0) : (nS T n (tQn T n 1 e) 1 5 ≠ 0 → moF T n e = nS T n (tQn T n 1 e) 1 5) ∧ (nS T n (tQn T n 1 e) 1 5 = 0 → moF T n e = wdS T n (tQn T n 2 e)) ∧ moK T n e = 5 ∧ moV T n e = vN T n (tQn T n 1 e) ∧ moW T n e = wdv T n (tQn T n 2 e) ∧ moE T n e = tQn T n 3 e := by
  unfold moF moK moV moW moE; rw [if_neg g, if_neg g, if_neg g, if_neg g, if_neg g, if_neg g2, if_neg g2, if_neg g2, if_neg g2, if_neg g2, if_pos h, if_pos h, if_pos h, if_pos h, if_pos h]
  exact ⟨fun q => if_pos q, fun q => if_neg (by omega), rfl, rfl, rfl, rfl⟩
theorem mo_last {T : Int → Int} {n e : Int} (g : wS T n e wOn ≠ 0) (g2 : wS T n e wEnd ≠ 0) (g3 : wS T n e wNth ≠ 0) : (wS T n e wLast ≠ 0 → moF T n e = wS T n e wLast) ∧ (wS T n e wLast = 0 → moF T n e = wdS T n (tQn T n 1 e)) ∧ moK T n e = 6 ∧ moV T n e = 0 ∧ moW T n e = wdv T n (tQn T n 1 e) ∧ moE T n e = tQn T n 2 e := by
  unfold moF moK moV moW moE; rw [if_neg g, if_neg g, if_neg g, if_neg g, if_neg g, if_neg g2, if_neg g2, if_neg g2, if_neg g2, if_neg g2, if_neg g3, if_neg g3, if_neg g3, if_neg g3, if_neg g3]
  exact ⟨fun q => if_pos q, fun q => if_neg (by omega), rfl, rfl, rfl, rfl⟩
theorem wdS_y {T : Int → Int} {n e : Int} (h : wdv T n e ≠ -1) : wdS T n e = 0 := if_neg h
theorem wdS_n {T : Int → Int} {n e : Int} (h : wdv T n e = -1) : wdS T n e = 8 * tP T n e + 1 := if_pos h
theorem K69.to {f : Nat → va_E} {a : Nat} {F k n v w k' n' v' w' : Int} (h : K69 f a F k n v w) (e1 : k' = k) (e2 : n' = n) (e3 : v' = v) (e4 : w' = w) : K69 f a F k' n' v' w' := by rw [e1, e2, e3, e4]; exact h
theorem RS.to {T : Int → Int} {n e e' : Int} {f : Nat → va_E} {a : Nat} (h : RS T n f a e) (q : e' = e) : RS T n f a e' := by rw [q]; exact h
theorem tQn_s {T : Int → Int} {n e i i' : Int} (h : 0 ≤ i) (q : i' = i + 1) : tQn T n i'.toNat e = tQ T n (tQn T n i.toNat e) := by
  rw [q, show (i + 1).toNat = i.toNat + 1 by omega]; rfl
theorem wk_nx {T : Int → Int} {n E E' S S' : Int} {W : Int × Int × Int} {k k' : Nat} (wk : W = wkF T n k E S) (hk : k = k' + 1) (hw : wdv T n E ≠ -1) (hb : wb S (wdv T n E) = false) (eE : E' = tQ T n E) (eS : S' = S + p2 (wdv T n E)) : W = wkF T n k' E' S' := by
  rw [wk, wk_go hk hw hb, eE, eS]
theorem ru_once {T : Int → Int} {n e : Int} (h : wS T n e wOnce = 0) : ruF T n e = 0 ∧ ruK T n e = 0 ∧ ruN T n e = 0 ∧ ruV T n e = 0 ∧ ruW T n e = 0 ∧ ruE T n e = tQn T n 1 e := by
  unfold ruF ruK ruN ruV ruW ruE; rw [if_pos h, if_pos h, if_pos h, if_pos h, if_pos h, if_pos h]; exact ⟨rfl, rfl, rfl, rfl, rfl, rfl⟩
theorem ru_every {T : Int → Int} {n e : Int} (h : wS T n e wOnce ≠ 0) (g : wS T n e wEvery ≠ 0) : ruF T n e = wS T n e wEvery := by unfold ruF; rw [if_neg h, if_pos g]
theorem ru_num {T : Int → Int} {n e : Int} (h : wS T n e wOnce ≠ 0) (g : wS T n e wEvery = 0) (k : nS T n (tQn T n 1 e) 1 999 ≠ 0) : ruF T n e = nS T n (tQn T n 1 e) 1 999 := by unfold ruF; rw [if_neg h, if_neg (by omega), if_pos k]
theorem ru_days {T : Int → Int} {n e : Int} (h : wS T n e wOnce ≠ 0) (g : wS T n e wEvery = 0) (k : nS T n (tQn T n 1 e) 1 999 = 0) (d : wS T n (tQn T n 2 e) wDays = 0) : ruF T n e = 0 ∧ ruK T n e = 1 ∧ ruN T n e = vN T n (tQn T n 1 e) ∧ ruV T n e = 0 ∧ ruW T n e = 0 ∧ ruE T n e = tQn T n 3 e := by
  unfold ruF ruK ruN ruV ruW ruE
  rw [if_neg h, if_neg h, if_neg h, if_neg h, if_neg h, if_neg h, if_neg (by omega), if_neg (by omega), if_pos d, if_pos d, if_pos d, if_pos d, if_pos d]; exact ⟨rfl, rfl, rfl, rfl, rfl, rfl⟩
theorem ru_years {T : Int → Int} {n e : Int} (h : wS T n e wOnce ≠ 0) (g : wS T n e wEvery = 0) (k : nS T n (tQn T n 1 e) 1 999 = 0) (d : wS T n (tQn T n 2 e) wDays ≠ 0) (y : wS T n (tQn T n 2 e) wYears = 0) : ruF T n e = 0 ∧ ruK T n e = 7 ∧ ruN T n e = vN T n (tQn T n 1 e) ∧ ruV T n e = 0 ∧ ruW T n e = 0 ∧ ruE T n e = tQn T n 3 e := by
  unfold ruF ruK ruN ruV ruW ruE
  rw [if_neg h, if_neg h, if_neg h, if_neg h, if_neg h, if_neg h, if_neg (by omega), if_neg (by omega), if_neg d, if_neg d, if_neg d, if_neg d, if_neg d, if_pos y, if_pos y, if_pos y, if_pos y, if_pos y]; exact ⟨rfl, rfl, rfl, rfl, rfl, rfl⟩
theorem ru_weeks {T : Int → Int} {n e : Int} (h : wS T n e wOnce ≠ 0) (g : wS T n e wEvery = 0) (k : nS T n (tQn T n 1 e) 1 999 = 0) (d : wS T n (tQn T n 2 e) wDays ≠ 0) (y : wS T n (tQn T n 2 e) wYears ≠ 0) (w : wS T n (tQn T n 2 e) wWeeks = 0) : ruF T n e = (wkF T n 8 (tQn T n 3 e) 0).1 ∧ ruK T n e = 2 ∧ ruN T n e = vN T n (tQn T n 1 e) ∧ ruV T n e = (wkF T n 8 (tQn T n 3 e) 0).2.1 ∧ ruW T n e = 0 ∧ ruE T n e = (wkF T n 8 (tQn T n 3 e) 0).2.2 := by
  unfold ruF ruK ruN ruV ruW ruE
  rw [if_neg h, if_neg h, if_neg h, if_neg h, if_neg h, if_neg h, if_neg (by omega), if_neg (by omega), if_neg d, if_neg d, if_neg d, if_neg d, if_neg d, if_neg y, if_neg y, if_neg y, if_neg y, if_neg y, if_pos w, if_pos w, if_pos w, if_pos w, if_pos w]; exact ⟨rfl, rfl, rfl, rfl, rfl, rfl⟩
theorem ru_m0 {T : Int → Int} {n e : Int} (h : wS T n e wOnce ≠ 0) (g : wS T n e wEvery = 0) (k : nS T n (tQn T n 1 e) 1 999 = 0) (d : wS T n (tQn T n 2 e) wDays ≠ 0) (y : wS T n (tQn T n 2 e) wYears ≠ 0) (w : wS T n (tQn T n 2 e) wWeeks ≠ 0) (m : wS T n (tQn T n 2 e) wMonths ≠ 0) : ruF T n e = wS T n (tQn T n 2 e) wMonths := by
  unfold ruF
  rw [if_neg h, if_neg (by omega), if_neg (by omega), if_neg d, if_neg y, if_neg w, if_pos m]
theorem ru_months {T : Int → Int} {n e : Int} (h : wS T n e wOnce ≠ 0) (g : wS T n e wEvery = 0) (k : nS T n (tQn T n 1 e) 1 999 = 0) (d : wS T n (tQn T n 2 e) wDays ≠ 0) (y : wS T n (tQn T n 2 e) wYears ≠ 0) (w : wS T n (tQn T n 2 e) wWeeks ≠ 0) (m : wS T n (tQn T n 2 e) wMonths = 0) : ruF T n e = moF T n (tQn T n 3 e) ∧ ruK T n e = moK T n (tQn T n 3 e) ∧ ruN T n e = vN T n (tQn T n 1 e) ∧ ruV T n e = moV T n (tQn T n 3 e) ∧ ruW T n e = moW T n (tQn T n 3 e) ∧ ruE T n e = moE T n (tQn T n 3 e) := by
  unfold ruF ruK ruN ruV ruW ruE
  rw [if_neg h, if_neg h, if_neg h, if_neg h, if_neg h, if_neg h, if_neg (by omega), if_neg (by omega), if_neg d, if_neg d, if_neg d, if_neg d, if_neg d, if_neg y, if_neg y, if_neg y, if_neg y, if_neg y, if_neg w, if_neg w, if_neg w, if_neg w, if_neg w, if_neg (by omega)]; exact ⟨rfl, rfl, rfl, rfl, rfl, rfl⟩
set_option maxHeartbeats 4000000 in
set_option maxRecDepth 100000 in
theorem c_X5_readWeekday_p {Z : Zt} (zo : Zok Z) (l : Launch) (D : va_G) (cy : Cy) (L0 : List Nat) (f0 : Nat → va_E) (a0 : Nat) (m_a0 : a0 ∈ L0) (o_a0 : Ob f0 a0 4) (hg : GI cy L0 f0) (Tt : Int → Int) (nn : Int) (tp : Nat) (rt : RT Tt nn f0 a0 tp) (ee : Int) (rs : RS Tt nn f0 a0 ee) (e0 : 0 ≤ ee) (e1 : ee ≤ nn) (Fq : Int) (k0 : Int) (n0 : Int) (v0 : Int) (w0 : Int) (kx : K69 f0 a0 Fq k0 n0 v0 w0) : Ci Z l yX5_readWeekday (Cond.code yX5_readWeekday cX5_readWeekday 1 (some .boolean) :: TB) ({ frames := 6, cells := 0, slots := 0, locals := 130 } : Room) 0 0 D (tq cy) [.ref a0] L0 f0 (fun (r : Int) (L1 : List Nat) (f1 : Nat → va_E) => L0 = L1 ∧ GI cy L0 f1 ∧ Ex cy f0 f1 ∧ ((r = 1 ∧ wdv Tt nn ee ≠ -1 ∧ OA f0 f1 a0 ∧ K69 f1 a0 Fq k0 n0 v0 (wdv Tt nn ee) ∧ RT Tt nn f1 a0 tp ∧ RS Tt nn f1 a0 (tQ Tt nn ee)) ∨ (r = 0 ∧ wdv Tt nn ee = -1 ∧ OA f0 f1 a0 ∧ fI f1 a0 5 = 8 * tP Tt nn ee + 1))) := by
  refine Ci.enter (cc := cX5_readWeekday) (n := 1) rfl (plainFor_of_name (by decide)) (Nat.le_of_ble_eq_true rfl) ?_
  intro p e s m below meth c ls A hx hb hr hts hown hlocks hnm hml hK hA hAe hw hZ hl
  have hown : s.vm.findClass RX5 = some m.cls := hown
  have hl : lv_has ls 1 [(0, .ref a0)] := hl
  have hN : ZN s := (zo.2.2.2.2 _ _ _ hZ).2
  have hE : Ex cy f0 f0 := Ex.refl cy f0
  have nb0 := rt.2.2.1
  have nb1 := rt.2.2.2.1
  have rs1 := rs.1
  have rs2 := rs.2.1
  have rs3 := rs.2.2
  have pb := tP_b (T := Tt) e1
  have qb := tQ_b (T := Tt) e1
  have oa := OA.refl f0 a0
  have wb9 := wdv_b Tt nn ee
  refine lv_aload_n hx hb dX5_readWeekday_0 rfl (lv_at hl 0 rfl) ?_
  refine lv_aload_n hx hb dX5_readWeekday_1 rfl (lv_at hl 0 rfl) ?_
  refine q_call_i hA hK hw (va_runV (As := []) (rest := [.ref a0]) ⟨hx, hb, hml, hown, hts⟩ (c_X5_weekdayHere_q zo l D cy L0 f0 a0 m_a0 o_a0 hg Tt nn tp rt ee rs (by omega) (by omega) _) (cwV 0 hts (gT (inV (mr10 _ (List.mem_of_getElem? (i := 22) rfl)) (mr10 _ (List.mem_of_getElem? (i := 23) rfl)) (mr11 _ (List.mem_of_getElem? (i := 0) rfl)) (mr5 _ (List.mem_of_getElem? (i := 18) rfl)) (mr11 _ (List.mem_of_getElem? (i := 1) rfl)))) rfl rfl rfl (by decide +kernel) ⟨Nat.le_of_ble_eq_true rfl, Nat.le_of_ble_eq_true rfl⟩) (Wd.preV zo hA hZ hw hK m_a0 o_a0 rfl) rfl rfl hl.1 rfl (lv_room (Nat.le_of_ble_eq_true rfl)) dX5_readWeekday_2 ⟨Nat.le_of_ble_eq_true rfl, Nat.le_of_ble_eq_true rfl⟩) (fun x_1 L1 f1 H locs lx_1 ux_1 ex_1 hw => ?_)
  obtain ⟨rfl, rfl, ex_1⟩ := ex_1
  have t2 := ex_1
  refine q_puti (ci := 4) (C := RX5) (T := TX5) (N := 10) hx hb hts (fun w h => List.mem_cons_of_mem _ (mfX50 w h)) hown hK hw m_a0 o_a0 rfl 9 (by decide) (hts _ (List.mem_cons_of_mem _ (mr6 _ (List.mem_of_getElem? (i := 10) rfl)))) (fun _ h => h) tyX5 tyX5_ok nmX5 rfl (ty := .int) (by decide +kernel) rfl rfl dX5_readWeekday_5 (fun H locs hw => ?_)
  have oo := o_a0
  obtain ⟨f_2, ef_2⟩ : ∃ g : Nat → va_E, g = pU f0 a0 9 (.int (iI x_1)) := ⟨_, rfl⟩
  have hX : Ex cy f0 f_2 := by rw [ef_2]; exact Ex_pU oo rfl rfl (by decide)
  have hg : GI cy L0 f_2 := by rw [ef_2]; exact hg.putI oo rfl ⟨lx_1, ux_1⟩ trivial
  rw [← ef_2] at hw
  have hE := hE.trans hX
  have o_a0 := hX.1.1 _ _ o_a0
  have vf_2 : fI f_2 a0 9 = x_1 := by rw [ef_2]; exact fI_pU_self oo rfl ⟨lx_1, ux_1⟩
  have oa := oa.put ef_2
  have rt := rt.put ef_2 (by decide)
  have rs := rs.put ef_2 (by decide)
  have kx := kx.p9 oo ⟨by omega, by omega⟩ ef_2 t2
  have rs1 := rs.1
  have rs2 := rs.2.1
  have rs3 := rs.2.2
  refine lv_aload_n hx hb dX5_readWeekday_8 rfl (lv_at hl 0 rfl) ?_
  refine q_geti (ci := 4) (C := RX5) (T := TX5) (N := 10) hx hb hts (fun w h => List.mem_cons_of_mem _ (mfX50 w h)) hown hK hw m_a0 o_a0 rfl 9 (by decide) (hts _ (List.mem_cons_of_mem _ (mr6 _ (List.mem_of_getElem? (i := 10) rfl)))) (fun _ h => h) rfl dX5_readWeekday_9 (fun x_3 lx_3 ux_3 ex_3 => ?_)
  refine q_iconst hx hb dX5_readWeekday_12 ?_
  refine q_icmp_ne (tgt := 22) hx hb dX5_readWeekday_13 (by decide) ⟨lx_3, ux_3⟩ ⟨by decide, by decide⟩ (fun c13 => ?_) (fun c13 => ?_)
  · refine lv_aload_n hx hb dX5_readWeekday_22 rfl (lv_at hl 0 rfl) ?_
    refine q_call_v hA hK hw (va_runV (As := []) (rest := []) ⟨hx, hb, hml, hown, hts⟩ (c_X5_step_p zo l D cy L0 f_2 a0 m_a0 o_a0 hg Tt nn tp rt (by omega) (by omega) _) (cwV 0 hts (gT (inV (mr7 _ (List.mem_of_getElem? (i := 2) rfl)) (mr7 _ (List.mem_of_getElem? (i := 3) rfl)) (mr7 _ (List.mem_of_getElem? (i := 4) rfl)) (mr5 _ (List.mem_of_getElem? (i := 18) rfl)) (mr7 _ (List.mem_of_getElem? (i := 5) rfl)))) rfl rfl rfl (by decide +kernel) ⟨Nat.le_of_ble_eq_true rfl, Nat.le_of_ble_eq_true rfl⟩) (Wd.preV zo hA hZ hw hK m_a0 o_a0 rfl) rfl rfl hl.1 rfl (lv_room (Nat.le_of_ble_eq_true rfl)) dX5_readWeekday_23 ⟨Nat.le_of_ble_eq_true rfl, Nat.le_of_ble_eq_true rfl⟩) (fun L1 f_5 H locs ex_4 hw => ?_)
    obtain ⟨rfl, hg, hX, ex_4⟩ := ex_4
    have hE := hE.trans hX
    have o_a0 := hX.1.1 _ _ o_a0
    have n9 := ex_4
    rw [rs3] at n9
    have oa := oa.trans n9.1
    have kx := kx.k5 n9.2.1
    have rt := n9.2.2.1
    have rs := n9.2.2.2
    refine q_iconst hx hb dX5_readWeekday_26 ?_
    exact q_ret_z hx hb hr hlocks hK hAe hw (by omega) (Nat.le_of_ble_eq_true rfl) (Nat.le_of_ble_eq_true rfl) dX5_readWeekday_27 (by exact ⟨rfl, hg, hE, Or.inl ⟨by omega, by omega, oa, kx, rt, rs⟩⟩)
  · refine lv_aload_n hx hb dX5_readWeekday_16 rfl (lv_at hl 0 rfl) ?_
    refine q_iconst hx hb dX5_readWeekday_17 ?_
    refine q_call_i hA hK hw (va_runV (As := [.int (iI 1)]) (rest := []) ⟨hx, hb, hml, hown, hts⟩ (c_X5_refuse_p zo l D cy L0 f_2 a0 1 (by decide) (by decide) m_a0 o_a0 hg (by omega) (by omega) (by omega) (by omega) _) (cwV 1 hts (gT (inV (mr10 _ (List.mem_of_getElem? (i := 6) rfl)) (mr10 _ (List.mem_of_getElem? (i := 7) rfl)) (mr10 _ (List.mem_of_getElem? (i := 8) rfl)) (mr5 _ (List.mem_of_getElem? (i := 18) rfl)) (mr10 _ (List.mem_of_getElem? (i := 9) rfl)))) rfl rfl rfl (by decide +kernel) ⟨Nat.le_of_ble_eq_true rfl, Nat.le_of_ble_eq_true rfl⟩) (Wd.preV zo hA hZ hw hK m_a0 o_a0 rfl) rfl rfl hl.1 rfl (lv_room (Nat.le_of_ble_eq_true rfl)) dX5_readWeekday_18 ⟨Nat.le_of_ble_eq_true rfl, Nat.le_of_ble_eq_true rfl⟩) (fun x_6 L1 f_7 H locs lx_6 ux_6 ex_6 hw => ?_)
    obtain ⟨rfl, hg, hX, ex_6⟩ := ex_6
    have hE := hE.trans hX
    have o_a0 := hX.1.1 _ _ o_a0
    have t18 := ex_6
    have oa := oa.trans t18.2.1
    exact q_ret_z hx hb hr hlocks hK hAe hw (by omega) (Nat.le_of_ble_eq_true rfl) (Nat.le_of_ble_eq_true rfl) dX5_readWeekday_21 (by exact ⟨rfl, hg, hE, Or.inr ⟨by omega, by omega, oa, by omega⟩⟩)
set_option maxHeartbeats 4000000 in
set_option maxRecDepth 100000 in
theorem c_X5_readMonths_p {Z : Zt} (zo : Zok Z) (l : Launch) (D : va_G) (cy : Cy) (L0 : List Nat) (f0 : Nat → va_E) (a0 : Nat) (m_a0 : a0 ∈ L0) (o_a0 : Ob f0 a0 4) (hg : GI cy L0 f0) (Tt : Int → Int) (nn : Int) (tp : Nat) (rt : RT Tt nn f0 a0 tp) (ee : Int) (rs : RS Tt nn f0 a0 ee) (e0 : 0 ≤ ee) (e1 : ee ≤ nn) (Fq : Int) (k0 : Int) (n0 : Int) (kx : K69 f0 a0 Fq k0 n0 0 0) : Ci Z l yX5_readMonths (Cond.code yX5_readMonths cX5_readMonths 1 (some .boolean) :: TB) ({ frames := 7, cells := 0, slots := 0, locals := 151 } : Room) 0 0 D (tq cy) [.ref a0] L0 f0 (fun (r : Int) (L1 : List Nat) (f1 : Nat → va_E) => L0 = L1 ∧ GI cy L0 f1 ∧ Ex cy f0 f1 ∧ ((r = 1 ∧ (moF Tt nn ee) = 0 ∧ OA f0 f1 a0 ∧ K69 f1 a0 Fq (moK Tt nn ee) n0 (moV Tt nn ee) (moW Tt nn ee) ∧ RT Tt nn f1 a0 tp ∧ RS Tt nn f1 a0 (moE Tt nn ee)) ∨ (r = 0 ∧ (moF Tt nn ee) ≠ 0 ∧ OA f0 f1 a0 ∧ fI f1 a0 5 = (moF Tt nn ee)))) := by
  refine Ci.enter (cc := cX5_readMonths) (n := 1) rfl (plainFor_of_name (by decide)) (Nat.le_of_ble_eq_true rfl) ?_
  intro p e s m below meth c ls A hx hb hr hts hown hlocks hnm hml hK hA hAe hw hZ hl
  have hown : s.vm.findClass RX5 = some m.cls := hown
  have hl : lv_has ls 1 [(0, .ref a0)] := hl
  have hN : ZN s := (zo.2.2.2.2 _ _ _ hZ).2
  have hE : Ex cy f0 f0 := Ex.refl cy f0
  have nb0 := rt.2.2.1
  have nb1 := rt.2.2.2.1
  have rs1 := rs.1
  have rs2 := rs.2.1
  have rs3 := rs.2.2
  have pb := tP_b (T := Tt) e1
  have qb := tQ_b (T := Tt) e1
  have oa := OA.refl f0 a0
  have tb1 := tQn_b (T := Tt) e0 e1 1
  have tb2 := tQn_b (T := Tt) e0 e1 2
  have tb3 := tQn_b (T := Tt) e0 e1 3
  refine lv_aload_n hx hb dX5_readMonths_0 rfl (lv_at hl 0 rfl) ?_
  obtain ⟨t_1, v_t_1, h_t_1⟩ : ∃ q v : Nat, ∀ (A : Nat → Prop) (U : State) (H : Heap), Z A U H → vk_R RX5 116 "on" q U ∧ Tx [111, 110] q v A U H := ztx_10 zo
  obtain ⟨b_t_1, eb_t_1⟩ : ∃ b : List Int32, b = [111, 110] := ⟨_, rfl⟩
  have nb_t_1 : Asc b_t_1 := by rw [eb_t_1]; exact ⟨by decide, by decide +kernel⟩
  have tx_t_1 : ∀ (A : Nat → Prop) (U : State) (H : Heap), Z A U H → Tx b_t_1 t_1 v_t_1 A U H := fun A U H h => by rw [eb_t_1]; exact (h_t_1 A U H h).2
  refine va_ldcS hx hb hown (h_t_1 _ _ _ hZ).1 dX5_readMonths_1 ?_
  have ebw3 : b_t_1 = wOn := eb_t_1
  refine q_call_i hA hK hw (va_runV (As := [.ref t_1]) (rest := []) ⟨hx, hb, hml, hown, hts⟩ (c_X5_take_q zo l D cy L0 f0 a0 t_1 m_a0 o_a0 b_t_1 v_t_1 nb_t_1 tx_t_1 hg Tt nn tp rt ee rs (by omega) (by omega) _) (cwV 1 hts (gT (inV (mr7 _ (List.mem_of_getElem? (i := 21) rfl)) (mr7 _ (List.mem_of_getElem? (i := 22) rfl)) (mr7 _ (List.mem_of_getElem? (i := 23) rfl)) (mr5 _ (List.mem_of_getElem? (i := 18) rfl)) (mr8 _ (List.mem_of_getElem? (i := 0) rfl)))) rfl rfl rfl (by decide +kernel) ⟨Nat.le_of_ble_eq_true rfl, Nat.le_of_ble_eq_true rfl⟩) (Wd.preV zo hA hZ hw hK m_a0 o_a0 rfl) rfl rfl hl.1 rfl (lv_room (Nat.le_of_ble_eq_true rfl)) dX5_readMonths_3 ⟨Nat.le_of_ble_eq_true rfl, Nat.le_of_ble_eq_true rfl⟩) (fun x_2 L1 f_3 H locs lx_2 ux_2 ex_2 hw => ?_)
  obtain ⟨rfl, hg, hX, ex_2⟩ := ex_2
  have hE := hE.trans hX
  have o_a0 := hX.1.1 _ _ o_a0
  have t3 := ex_2
  rw [ebw3] at t3
  refine q_if_eq (tgt := 39) hx hb dX5_readMonths_6 (by decide) ⟨lx_2, ux_2⟩ (fun c6 => ?_) (fun c6 => ?_)
  · obtain ⟨_, w3, qz⟩ := t3.resolve_left (by omega)
    have rt : RT Tt nn f_3 a0 tp := by rw [qz]; exact rt
    have rs : RS Tt nn f_3 a0 ee := by rw [qz]; exact rs
    have kx : K69 f_3 a0 Fq k0 n0 0 0 := by rw [qz]; exact kx
    have oa : OA f0 f_3 a0 := by rw [qz]; exact oa
    have rs1 := rs.1
    have rs2 := rs.2.1
    have rs3 := rs.2.2
    refine lv_aload_n hx hb dX5_readMonths_39 rfl (lv_at hl 0 rfl) ?_
    obtain ⟨t_4, v_t_4, h_t_4⟩ : ∃ q v : Nat, ∀ (A : Nat → Prop) (U : State) (H : Heap), Z A U H → vk_R RX5 118 "end" q U ∧ Tx [101, 110, 100] q v A U H := ztx_11 zo
    obtain ⟨b_t_4, eb_t_4⟩ : ∃ b : List Int32, b = [101, 110, 100] := ⟨_, rfl⟩
    have nb_t_4 : Asc b_t_4 := by rw [eb_t_4]; exact ⟨by decide, by decide +kernel⟩
    have tx_t_4 : ∀ (A : Nat → Prop) (U : State) (H : Heap), Z A U H → Tx b_t_4 t_4 v_t_4 A U H := fun A U H h => by rw [eb_t_4]; exact (h_t_4 A U H h).2
    refine va_ldcS hx hb hown (h_t_4 _ _ _ hZ).1 dX5_readMonths_40 ?_
    have ebw42 : b_t_4 = wEnd := eb_t_4
    refine q_call_i hA hK hw (va_runV (As := [.ref t_4]) (rest := []) ⟨hx, hb, hml, hown, hts⟩ (c_X5_take_q zo l D cy L0 f_3 a0 t_4 m_a0 o_a0 b_t_4 v_t_4 nb_t_4 tx_t_4 hg Tt nn tp rt ee rs (by omega) (by omega) _) (cwV 1 hts (gT (inV (mr7 _ (List.mem_of_getElem? (i := 21) rfl)) (mr7 _ (List.mem_of_getElem? (i := 22) rfl)) (mr7 _ (List.mem_of_getElem? (i := 23) rfl)) (mr5 _ (List.mem_of_getElem? (i := 18) rfl)) (mr8 _ (List.mem_of_getElem? (i := 0) rfl)))) rfl rfl rfl (by decide +kernel) ⟨Nat.le_of_ble_eq_true rfl, Nat.le_of_ble_eq_true rfl⟩) (Wd.preV zo hA hZ hw hK m_a0 o_a0 rfl) rfl rfl hl.1 rfl (lv_room (Nat.le_of_ble_eq_true rfl)) dX5_readMonths_42 ⟨Nat.le_of_ble_eq_true rfl, Nat.le_of_ble_eq_true rfl⟩) (fun x_5 L1 f_6 H locs lx_5 ux_5 ex_5 hw => ?_)
    obtain ⟨rfl, hg, hX, ex_5⟩ := ex_5
    have hE := hE.trans hX
    have o_a0 := hX.1.1 _ _ o_a0
    have t42 := ex_5
    rw [ebw42] at t42
    refine q_if_eq (tgt := 78) hx hb dX5_readMonths_45 (by decide) ⟨lx_5, ux_5⟩ (fun c45 => ?_) (fun c45 => ?_)
    · obtain ⟨_, w42, qz⟩ := t42.resolve_left (by omega)
      have rt : RT Tt nn f_6 a0 tp := by rw [qz]; exact rt
      have rs : RS Tt nn f_6 a0 ee := by rw [qz]; exact rs
      have kx : K69 f_6 a0 Fq k0 n0 0 0 := by rw [qz]; exact kx
      have oa : OA f0 f_6 a0 := by rw [qz]; exact oa
      have rs1 := rs.1
      have rs2 := rs.2.1
      have rs3 := rs.2.2
      refine lv_aload_n hx hb dX5_readMonths_78 rfl (lv_at hl 0 rfl) ?_
      obtain ⟨t_7, v_t_7, h_t_7⟩ : ∃ q v : Nat, ∀ (A : Nat → Prop) (U : State) (H : Heap), Z A U H → vk_R RX5 120 "nth" q U ∧ Tx [110, 116, 104] q v A U H := ztx_12 zo
      obtain ⟨b_t_7, eb_t_7⟩ : ∃ b : List Int32, b = [110, 116, 104] := ⟨_, rfl⟩
      have nb_t_7 : Asc b_t_7 := by rw [eb_t_7]; exact ⟨by decide, by decide +kernel⟩
      have tx_t_7 : ∀ (A : Nat → Prop) (U : State) (H : Heap), Z A U H → Tx b_t_7 t_7 v_t_7 A U H := fun A U H h => by rw [eb_t_7]; exact (h_t_7 A U H h).2
      refine va_ldcS hx hb hown (h_t_7 _ _ _ hZ).1 dX5_readMonths_79 ?_
      have ebw81 : b_t_7 = wNth := eb_t_7
      refine q_call_i hA hK hw (va_runV (As := [.ref t_7]) (rest := []) ⟨hx, hb, hml, hown, hts⟩ (c_X5_take_q zo l D cy L0 f_6 a0 t_7 m_a0 o_a0 b_t_7 v_t_7 nb_t_7 tx_t_7 hg Tt nn tp rt ee rs (by omega) (by omega) _) (cwV 1 hts (gT (inV (mr7 _ (List.mem_of_getElem? (i := 21) rfl)) (mr7 _ (List.mem_of_getElem? (i := 22) rfl)) (mr7 _ (List.mem_of_getElem? (i := 23) rfl)) (mr5 _ (List.mem_of_getElem? (i := 18) rfl)) (mr8 _ (List.mem_of_getElem? (i := 0) rfl)))) rfl rfl rfl (by decide +kernel) ⟨Nat.le_of_ble_eq_true rfl, Nat.le_of_ble_eq_true rfl⟩) (Wd.preV zo hA hZ hw hK m_a0 o_a0 rfl) rfl rfl hl.1 rfl (lv_room (Nat.le_of_ble_eq_true rfl)) dX5_readMonths_81 ⟨Nat.le_of_ble_eq_true rfl, Nat.le_of_ble_eq_true rfl⟩) (fun x_8 L1 f_9 H locs lx_8 ux_8 ex_8 hw => ?_)
      obtain ⟨rfl, hg, hX, ex_8⟩ := ex_8
      have hE := hE.trans hX
      have o_a0 := hX.1.1 _ _ o_a0
      have t81 := ex_8
      rw [ebw81] at t81
      refine q_if_eq (tgt := 123) hx hb dX5_readMonths_84 (by decide) ⟨lx_8, ux_8⟩ (fun c84 => ?_) (fun c84 => ?_)
      · obtain ⟨_, w81, qz⟩ := t81.resolve_left (by omega)
        have rt : RT Tt nn f_9 a0 tp := by rw [qz]; exact rt
        have rs : RS Tt nn f_9 a0 ee := by rw [qz]; exact rs
        have kx : K69 f_9 a0 Fq k0 n0 0 0 := by rw [qz]; exact kx
        have oa : OA f0 f_9 a0 := by rw [qz]; exact oa
        have rs1 := rs.1
        have rs2 := rs.2.1
        have rs3 := rs.2.2
        refine lv_aload_n hx hb dX5_readMonths_123 rfl (lv_at hl 0 rfl) ?_
        refine q_bipush hx hb dX5_readMonths_124 rfl ?_
        refine q_puti (ci := 4) (C := RX5) (T := TX5) (N := 10) hx hb hts (fun w h => List.mem_cons_of_mem _ (mfX50 w h)) hown hK hw m_a0 o_a0 rfl 6 (by decide) (hts _ (List.mem_cons_of_mem _ (mr6 _ (List.mem_of_getElem? (i := 7) rfl)))) (fun _ h => h) tyX5 tyX5_ok nmX5 rfl (ty := .int) (by decide +kernel) rfl rfl dX5_readMonths_126 (fun H locs hw => ?_)
        have oo := o_a0
        obtain ⟨f_10, ef_10⟩ : ∃ g : Nat → va_E, g = pU f_9 a0 6 (.int (iI 6)) := ⟨_, rfl⟩
        have hX : Ex cy f_9 f_10 := by rw [ef_10]; exact Ex_pU oo rfl rfl (by decide)
        have hg : GI cy L0 f_10 := by rw [ef_10]; exact hg.putI oo rfl ⟨by decide, by decide⟩ trivial
        rw [← ef_10] at hw
        have hE := hE.trans hX
        have o_a0 := hX.1.1 _ _ o_a0
        have vf_10 : fI f_10 a0 6 = 6 := by rw [ef_10]; exact fI_pU_self oo rfl ⟨by decide, by decide⟩
        have oa := oa.put ef_10
        have rt := rt.put ef_10 (by decide)
        have rs := rs.put ef_10 (by decide)
        have kx := kx.p6 oo ⟨by omega, by omega⟩ ef_10 rfl
        have rs1 := rs.1
        have rs2 := rs.2.1
        have rs3 := rs.2.2
        refine lv_aload_n hx hb dX5_readMonths_129 rfl (lv_at hl 0 rfl) ?_
        obtain ⟨t_11, v_t_11, h_t_11⟩ : ∃ q v : Nat, ∀ (A : Nat → Prop) (U : State) (H : Heap), Z A U H → vk_R RX5 125 "last" q U ∧ Tx [108, 97, 115, 116] q v A U H := ztx_13 zo
        obtain ⟨b_t_11, eb_t_11⟩ : ∃ b : List Int32, b = [108, 97, 115, 116] := ⟨_, rfl⟩
        have nb_t_11 : Asc b_t_11 := by rw [eb_t_11]; exact ⟨by decide, by decide +kernel⟩
        have tx_t_11 : ∀ (A : Nat → Prop) (U : State) (H : Heap), Z A U H → Tx b_t_11 t_11 v_t_11 A U H := fun A U H h => by rw [eb_t_11]; exact (h_t_11 A U H h).2
        refine va_ldcS hx hb hown (h_t_11 _ _ _ hZ).1 dX5_readMonths_130 ?_
        have ebw132 : b_t_11 = wLast := eb_t_11
        refine q_call_i hA hK hw (va_runV (As := [.ref t_11]) (rest := []) ⟨hx, hb, hml, hown, hts⟩ (c_X5_require_q zo l D cy L0 f_10 a0 t_11 m_a0 o_a0 b_t_11 v_t_11 nb_t_11 tx_t_11 hg Tt nn tp rt ee rs (by omega) (by omega) _) (cwV 1 hts (gT (inV (mr7 _ (List.mem_of_getElem? (i := 17) rfl)) (mr7 _ (List.mem_of_getElem? (i := 18) rfl)) (mr7 _ (List.mem_of_getElem? (i := 19) rfl)) (mr5 _ (List.mem_of_getElem? (i := 18) rfl)) (mr7 _ (List.mem_of_getElem? (i := 20) rfl)))) rfl rfl rfl (by decide +kernel) ⟨Nat.le_of_ble_eq_true rfl, Nat.le_of_ble_eq_true rfl⟩) (Wd.preV zo hA hZ hw hK m_a0 o_a0 rfl) rfl rfl hl.1 rfl (lv_room (Nat.le_of_ble_eq_true rfl)) dX5_readMonths_132 ⟨Nat.le_of_ble_eq_true rfl, Nat.le_of_ble_eq_true rfl⟩) (fun x_12 L1 f_13 H locs lx_12 ux_12 ex_12 hw => ?_)
        obtain ⟨rfl, hg, hX, ex_12⟩ := ex_12
        have hE := hE.trans hX
        have o_a0 := hX.1.1 _ _ o_a0
        have t132 := ex_12
        rw [ebw132] at t132
        refine q_if_eq (tgt := 149) hx hb dX5_readMonths_135 (by decide) ⟨lx_12, ux_12⟩ (fun c135 => ?_) (fun c135 => ?_)
        · obtain ⟨_, w132, qo, q5⟩ := t132.resolve_left (by omega)
          have oa := oa.trans qo
          refine q_iconst hx hb dX5_readMonths_149 ?_
          exact q_ret_z hx hb hr hlocks hK hAe hw (by omega) (Nat.le_of_ble_eq_true rfl) (Nat.le_of_ble_eq_true rfl) dX5_readMonths_150 (by (have z := mo_last w3 w42 w81; first | exact ⟨rfl, hg, hE, Or.inl ⟨by omega, (z.2.1 w132).trans (wdS_y w139), oa, kx.to ((z).2.2.1) rfl ((z).2.2.2.1) ((z).2.2.2.2.1), rt, rs.to ((z).2.2.2.2.2)⟩⟩ | (have y := z.1 w132; exact ⟨rfl, hg, hE, Or.inr ⟨by omega, by omega, oa, by omega⟩⟩) | (have y := (z.2.1 w132).trans (wdS_n w139); exact ⟨rfl, hg, hE, Or.inr ⟨by omega, by omega, oa, by omega⟩⟩)))
        · obtain ⟨_, w132, qo, qk, rt, rs⟩ := t132.resolve_right (by omega)
          have oa := oa.trans qo
          have kx : K69 f_13 a0 Fq 6 n0 0 0 := kx.k5 qk
          have rs1 := rs.1
          have rs2 := rs.2.1
          have rs3 := rs.2.2
          refine lv_aload_n hx hb dX5_readMonths_138 rfl (lv_at hl 0 rfl) ?_
          refine q_call_i hA hK hw (va_runV (As := []) (rest := []) ⟨hx, hb, hml, hown, hts⟩ (c_X5_readWeekday_p zo l D cy L0 f_13 a0 m_a0 o_a0 hg Tt nn tp rt (tQn Tt nn 1 ee) rs (by omega) (by omega) Fq 6 n0 0 0 kx _) (cwV 0 hts (gT (inV (mr11 _ (List.mem_of_getElem? (i := 6) rfl)) (mr11 _ (List.mem_of_getElem? (i := 7) rfl)) (mr11 _ (List.mem_of_getElem? (i := 8) rfl)) (mr5 _ (List.mem_of_getElem? (i := 18) rfl)) (mr11 _ (List.mem_of_getElem? (i := 9) rfl)))) rfl rfl rfl (by decide +kernel) ⟨Nat.le_of_ble_eq_true rfl, Nat.le_of_ble_eq_true rfl⟩) (Wd.preV zo hA hZ hw hK m_a0 o_a0 rfl) rfl rfl hl.1 rfl (lv_room (Nat.le_of_ble_eq_true rfl)) dX5_readMonths_139 ⟨Nat.le_of_ble_eq_true rfl, Nat.le_of_ble_eq_true rfl⟩) (fun x_14 L1 f_15 H locs lx_14 ux_14 ex_14 hw => ?_)
          obtain ⟨rfl, hg, hX, ex_14⟩ := ex_14
          have hE := hE.trans hX
          have o_a0 := hX.1.1 _ _ o_a0
          have t139 := ex_14
          refine q_if_eq (tgt := 149) hx hb dX5_readMonths_142 (by decide) ⟨lx_14, ux_14⟩ (fun c142 => ?_) (fun c142 => ?_)
          · obtain ⟨_, w139, qo, q5⟩ := t139.resolve_left (by omega)
            have oa := oa.trans qo
            refine q_iconst hx hb dX5_readMonths_149 ?_
            exact q_ret_z hx hb hr hlocks hK hAe hw (by omega) (Nat.le_of_ble_eq_true rfl) (Nat.le_of_ble_eq_true rfl) dX5_readMonths_150 (by (have z := mo_last w3 w42 w81; first | exact ⟨rfl, hg, hE, Or.inl ⟨by omega, (z.2.1 w132).trans (wdS_y w139), oa, kx.to ((z).2.2.1) rfl ((z).2.2.2.1) ((z).2.2.2.2.1), rt, rs.to ((z).2.2.2.2.2)⟩⟩ | (have y := z.1 w132; exact ⟨rfl, hg, hE, Or.inr ⟨by omega, by omega, oa, by omega⟩⟩) | (have y := (z.2.1 w132).trans (wdS_n w139); exact ⟨rfl, hg, hE, Or.inr ⟨by omega, by omega, oa, by omega⟩⟩)))
          · obtain ⟨_, w139, qo, kx, rt, rs⟩ := t139.resolve_right (by omega)
            have oa := oa.trans qo
            have kx : K69 f_15 a0 Fq 6 n0 0 (wdv Tt nn (tQn Tt nn 1 ee)) := kx
            have rs1 := rs.1
            have rs2 := rs.2.1
            have rs3 := rs.2.2
            refine q_iconst hx hb dX5_readMonths_145 ?_
            refine lv_goto (tgt := 150) hx hb dX5_readMonths_146 (by decide) ?_
            exact q_ret_z hx hb hr hlocks hK hAe hw (by omega) (Nat.le_of_ble_eq_true rfl) (Nat.le_of_ble_eq_true rfl) dX5_readMonths_150 (by (have z := mo_last w3 w42 w81; first | exact ⟨rfl, hg, hE, Or.inl ⟨by omega, (z.2.1 w132).trans (wdS_y w139), oa, kx.to ((z).2.2.1) rfl ((z).2.2.2.1) ((z).2.2.2.2.1), rt, rs.to ((z).2.2.2.2.2)⟩⟩ | (have y := z.1 w132; exact ⟨rfl, hg, hE, Or.inr ⟨by omega, by omega, oa, by omega⟩⟩) | (have y := (z.2.1 w132).trans (wdS_n w139); exact ⟨rfl, hg, hE, Or.inr ⟨by omega, by omega, oa, by omega⟩⟩)))
      · obtain ⟨_, w81, qo, qk, rt, rs⟩ := t81.resolve_right (by omega)
        have oa := oa.trans qo
        have kx : K69 f_9 a0 Fq k0 n0 0 0 := kx.k5 qk
        have rs1 := rs.1
        have rs2 := rs.2.1
        have rs3 := rs.2.2
        refine lv_aload_n hx hb dX5_readMonths_87 rfl (lv_at hl 0 rfl) ?_
        refine q_iconst hx hb dX5_readMonths_88 ?_
        refine q_puti (ci := 4) (C := RX5) (T := TX5) (N := 10) hx hb hts (fun w h => List.mem_cons_of_mem _ (mfX50 w h)) hown hK hw m_a0 o_a0 rfl 6 (by decide) (hts _ (List.mem_cons_of_mem _ (mr6 _ (List.mem_of_getElem? (i := 7) rfl)))) (fun _ h => h) tyX5 tyX5_ok nmX5 rfl (ty := .int) (by decide +kernel) rfl rfl dX5_readMonths_89 (fun H locs hw => ?_)
        have oo := o_a0
        obtain ⟨f_16, ef_16⟩ : ∃ g : Nat → va_E, g = pU f_9 a0 6 (.int (iI 5)) := ⟨_, rfl⟩
        have hX : Ex cy f_9 f_16 := by rw [ef_16]; exact Ex_pU oo rfl rfl (by decide)
        have hg : GI cy L0 f_16 := by rw [ef_16]; exact hg.putI oo rfl ⟨by decide, by decide⟩ trivial
        rw [← ef_16] at hw
        have hE := hE.trans hX
        have o_a0 := hX.1.1 _ _ o_a0
        have vf_16 : fI f_16 a0 6 = 5 := by rw [ef_16]; exact fI_pU_self oo rfl ⟨by decide, by decide⟩
        have oa := oa.put ef_16
        have rt := rt.put ef_16 (by decide)
        have rs := rs.put ef_16 (by decide)
        have kx := kx.p6 oo ⟨by omega, by omega⟩ ef_16 rfl
        have rs1 := rs.1
        have rs2 := rs.2.1
        have rs3 := rs.2.2
        refine lv_aload_n hx hb dX5_readMonths_92 rfl (lv_at hl 0 rfl) ?_
        refine lv_aload_n hx hb dX5_readMonths_93 rfl (lv_at hl 0 rfl) ?_
        refine q_iconst hx hb dX5_readMonths_94 ?_
        refine q_iconst hx hb dX5_readMonths_95 ?_
        refine q_call_i hA hK hw (va_runV (As := [.int (iI 1), .int (iI 5)]) (rest := [.ref a0]) ⟨hx, hb, hml, hown, hts⟩ (c_X5_takeNumber_q zo l D cy L0 f_16 a0 1 (by decide) (by decide) 5 (by decide) (by decide) m_a0 o_a0 hg Tt nn tp rt (tQn Tt nn 1 ee) rs (by omega) (by omega) _) (cwV 2 hts (gT (inV (mr10 _ (List.mem_of_getElem? (i := 10) rfl)) (mr10 _ (List.mem_of_getElem? (i := 11) rfl)) (mr10 _ (List.mem_of_getElem? (i := 12) rfl)) (mr5 _ (List.mem_of_getElem? (i := 18) rfl)) (mr10 _ (List.mem_of_getElem? (i := 13) rfl)))) rfl rfl rfl (by decide +kernel) ⟨Nat.le_of_ble_eq_true rfl, Nat.le_of_ble_eq_true rfl⟩) (Wd.preV zo hA hZ hw hK m_a0 o_a0 rfl) rfl rfl hl.1 rfl (lv_room (Nat.le_of_ble_eq_true rfl)) dX5_readMonths_96 ⟨Nat.le_of_ble_eq_true rfl, Nat.le_of_ble_eq_true rfl⟩) (fun x_17 L1 f_18 H locs lx_17 ux_17 ex_17 hw => ?_)
        obtain ⟨rfl, hg, hX, ex_17⟩ := ex_17
        have hE := hE.trans hX
        have o_a0 := hX.1.1 _ _ o_a0
        have t96 := ex_17
        refine q_puti (ci := 4) (C := RX5) (T := TX5) (N := 10) hx hb hts (fun w h => List.mem_cons_of_mem _ (mfX50 w h)) hown hK hw m_a0 o_a0 rfl 8 (by decide) (hts _ (List.mem_cons_of_mem _ (mr6 _ (List.mem_of_getElem? (i := 9) rfl)))) (fun _ h => h) tyX5 tyX5_ok nmX5 rfl (ty := .int) (by decide +kernel) rfl rfl dX5_readMonths_99 (fun H locs hw => ?_)
        have oo := o_a0
        obtain ⟨f_19, ef_19⟩ : ∃ g : Nat → va_E, g = pU f_18 a0 8 (.int (iI x_17)) := ⟨_, rfl⟩
        have hX : Ex cy f_18 f_19 := by rw [ef_19]; exact Ex_pU oo rfl rfl (by decide)
        have hg : GI cy L0 f_19 := by rw [ef_19]; exact hg.putI oo rfl ⟨lx_17, ux_17⟩ trivial
        rw [← ef_19] at hw
        have hE := hE.trans hX
        have o_a0 := hX.1.1 _ _ o_a0
        have vf_19 : fI f_19 a0 8 = x_17 := by rw [ef_19]; exact fI_pU_self oo rfl ⟨lx_17, ux_17⟩
        have eg99 := ef_19
        have oo99 := oo
        refine lv_aload_n hx hb dX5_readMonths_102 rfl (lv_at hl 0 rfl) ?_
        refine q_geti (ci := 4) (C := RX5) (T := TX5) (N := 10) hx hb hts (fun w h => List.mem_cons_of_mem _ (mfX50 w h)) hown hK hw m_a0 o_a0 rfl 8 (by decide) (hts _ (List.mem_cons_of_mem _ (mr6 _ (List.mem_of_getElem? (i := 9) rfl)))) (fun _ h => h) rfl dX5_readMonths_103 (fun x_20 lx_20 ux_20 ex_20 => ?_)
        refine q_iconst hx hb dX5_readMonths_106 ?_
        refine q_icmp_eq (tgt := 121) hx hb dX5_readMonths_107 (by decide) ⟨lx_20, ux_20⟩ ⟨by decide, by decide⟩ (fun c107 => ?_) (fun c107 => ?_)
        · obtain ⟨w96, q2, qo, q5⟩ := t96.resolve_left (by omega)
          have oa := (oa.trans qo).put eg99
          have q5 : fI f_19 a0 5 = nS Tt nn (tQn Tt nn 1 ee) 1 5 := Eq.trans (by rw [eg99]; exact fI_pU (Or.inr (by decide))) q5
          refine q_iconst hx hb dX5_readMonths_121 ?_
          exact q_ret_z hx hb hr hlocks hK hAe hw (by omega) (Nat.le_of_ble_eq_true rfl) (Nat.le_of_ble_eq_true rfl) dX5_readMonths_122 (by (have z := mo_nth w3 w42 w81; first | exact ⟨rfl, hg, hE, Or.inl ⟨by omega, (z.2.1 w96).trans (wdS_y w111), oa, kx.to ((z).2.2.1) rfl ((z).2.2.2.1) ((z).2.2.2.2.1), rt, rs.to ((z).2.2.2.2.2)⟩⟩ | (have y := z.1 w96; exact ⟨rfl, hg, hE, Or.inr ⟨by omega, by omega, oa, by omega⟩⟩) | (have y := (z.2.1 w96).trans (wdS_n w111); exact ⟨rfl, hg, hE, Or.inr ⟨by omega, by omega, oa, by omega⟩⟩)))
        · obtain ⟨w96, q2, q3, q4, qo, qk, rt, rs⟩ := t96.resolve_right (by omega)
          have oa := (oa.trans qo).put eg99
          have kx : K69 f_19 a0 Fq 5 n0 (vN Tt nn (tQn Tt nn 1 ee)) 0 := (kx.k5 qk).p8 oo99 ⟨by omega, by omega⟩ eg99 q2
          have rt := rt.put eg99 (by decide)
          have rs := rs.put eg99 (by decide)
          have rs1 := rs.1
          have rs2 := rs.2.1
          have rs3 := rs.2.2
          refine lv_aload_n hx hb dX5_readMonths_110 rfl (lv_at hl 0 rfl) ?_
          refine q_call_i hA hK hw (va_runV (As := []) (rest := []) ⟨hx, hb, hml, hown, hts⟩ (c_X5_readWeekday_p zo l D cy L0 f_19 a0 m_a0 o_a0 hg Tt nn tp rt (tQn Tt nn 2 ee) rs (by omega) (by omega) Fq 5 n0 (vN Tt nn (tQn Tt nn 1 ee)) 0 kx _) (cwV 0 hts (gT (inV (mr11 _ (List.mem_of_getElem? (i := 6) rfl)) (mr11 _ (List.mem_of_getElem? (i := 7) rfl)) (mr11 _ (List.mem_of_getElem? (i := 8) rfl)) (mr5 _ (List.mem_of_getElem? (i := 18) rfl)) (mr11 _ (List.mem_of_getElem? (i := 9) rfl)))) rfl rfl rfl (by decide +kernel) ⟨Nat.le_of_ble_eq_true rfl, Nat.le_of_ble_eq_true rfl⟩) (Wd.preV zo hA hZ hw hK m_a0 o_a0 rfl) rfl rfl hl.1 rfl (lv_room (Nat.le_of_ble_eq_true rfl)) dX5_readMonths_111 ⟨Nat.le_of_ble_eq_true rfl, Nat.le_of_ble_eq_true rfl⟩) (fun x_21 L1 f_22 H locs lx_21 ux_21 ex_21 hw => ?_)
          obtain ⟨rfl, hg, hX, ex_21⟩ := ex_21
          have hE := hE.trans hX
          have o_a0 := hX.1.1 _ _ o_a0
          have t111 := ex_21
          refine q_if_eq (tgt := 121) hx hb dX5_readMonths_114 (by decide) ⟨lx_21, ux_21⟩ (fun c114 => ?_) (fun c114 => ?_)
          · obtain ⟨_, w111, qo, q5⟩ := t111.resolve_left (by omega)
            have oa := oa.trans qo
            refine q_iconst hx hb dX5_readMonths_121 ?_
            exact q_ret_z hx hb hr hlocks hK hAe hw (by omega) (Nat.le_of_ble_eq_true rfl) (Nat.le_of_ble_eq_true rfl) dX5_readMonths_122 (by (have z := mo_nth w3 w42 w81; first | exact ⟨rfl, hg, hE, Or.inl ⟨by omega, (z.2.1 w96).trans (wdS_y w111), oa, kx.to ((z).2.2.1) rfl ((z).2.2.2.1) ((z).2.2.2.2.1), rt, rs.to ((z).2.2.2.2.2)⟩⟩ | (have y := z.1 w96; exact ⟨rfl, hg, hE, Or.inr ⟨by omega, by omega, oa, by omega⟩⟩) | (have y := (z.2.1 w96).trans (wdS_n w111); exact ⟨rfl, hg, hE, Or.inr ⟨by omega, by omega, oa, by omega⟩⟩)))
          · obtain ⟨_, w111, qo, kx, rt, rs⟩ := t111.resolve_right (by omega)
            have oa := oa.trans qo
            have kx : K69 f_22 a0 Fq 5 n0 (vN Tt nn (tQn Tt nn 1 ee)) (wdv Tt nn (tQn Tt nn 2 ee)) := kx
            have rs1 := rs.1
            have rs2 := rs.2.1
            have rs3 := rs.2.2
            refine q_iconst hx hb dX5_readMonths_117 ?_
            refine lv_goto (tgt := 122) hx hb dX5_readMonths_118 (by decide) ?_
            exact q_ret_z hx hb hr hlocks hK hAe hw (by omega) (Nat.le_of_ble_eq_true rfl) (Nat.le_of_ble_eq_true rfl) dX5_readMonths_122 (by (have z := mo_nth w3 w42 w81; first | exact ⟨rfl, hg, hE, Or.inl ⟨by omega, (z.2.1 w96).trans (wdS_y w111), oa, kx.to ((z).2.2.1) rfl ((z).2.2.2.1) ((z).2.2.2.2.1), rt, rs.to ((z).2.2.2.2.2)⟩⟩ | (have y := z.1 w96; exact ⟨rfl, hg, hE, Or.inr ⟨by omega, by omega, oa, by omega⟩⟩) | (have y := (z.2.1 w96).trans (wdS_n w111); exact ⟨rfl, hg, hE, Or.inr ⟨by omega, by omega, oa, by omega⟩⟩)))
    · obtain ⟨_, w42, qo, qk, rt, rs⟩ := t42.resolve_right (by omega)
      have oa := oa.trans qo
      have kx : K69 f_6 a0 Fq k0 n0 0 0 := kx.k5 qk
      have rs1 := rs.1
      have rs2 := rs.2.1
      have rs3 := rs.2.2
      refine lv_aload_n hx hb dX5_readMonths_48 rfl (lv_at hl 0 rfl) ?_
      refine q_iconst hx hb dX5_readMonths_49 ?_
      refine q_puti (ci := 4) (C := RX5) (T := TX5) (N := 10) hx hb hts (fun w h => List.mem_cons_of_mem _ (mfX50 w h)) hown hK hw m_a0 o_a0 rfl 6 (by decide) (hts _ (List.mem_cons_of_mem _ (mr6 _ (List.mem_of_getElem? (i := 7) rfl)))) (fun _ h => h) tyX5 tyX5_ok nmX5 rfl (ty := .int) (by decide +kernel) rfl rfl dX5_readMonths_50 (fun H locs hw => ?_)
      have oo := o_a0
      obtain ⟨f_23, ef_23⟩ : ∃ g : Nat → va_E, g = pU f_6 a0 6 (.int (iI 4)) := ⟨_, rfl⟩
      have hX : Ex cy f_6 f_23 := by rw [ef_23]; exact Ex_pU oo rfl rfl (by decide)
      have hg : GI cy L0 f_23 := by rw [ef_23]; exact hg.putI oo rfl ⟨by decide, by decide⟩ trivial
      rw [← ef_23] at hw
      have hE := hE.trans hX
      have o_a0 := hX.1.1 _ _ o_a0
      have vf_23 : fI f_23 a0 6 = 4 := by rw [ef_23]; exact fI_pU_self oo rfl ⟨by decide, by decide⟩
      have oa := oa.put ef_23
      have rt := rt.put ef_23 (by decide)
      have rs := rs.put ef_23 (by decide)
      have kx := kx.p6 oo ⟨by omega, by omega⟩ ef_23 rfl
      have rs1 := rs.1
      have rs2 := rs.2.1
      have rs3 := rs.2.2
      refine lv_aload_n hx hb dX5_readMonths_53 rfl (lv_at hl 0 rfl) ?_
      refine lv_aload_n hx hb dX5_readMonths_54 rfl (lv_at hl 0 rfl) ?_
      refine q_iconst hx hb dX5_readMonths_55 ?_
      refine q_bipush hx hb dX5_readMonths_56 rfl ?_
      refine q_call_i hA hK hw (va_runV (As := [.int (iI 1), .int (iI 28)]) (rest := [.ref a0]) ⟨hx, hb, hml, hown, hts⟩ (c_X5_takeNumber_q zo l D cy L0 f_23 a0 1 (by decide) (by decide) 28 (by decide) (by decide) m_a0 o_a0 hg Tt nn tp rt (tQn Tt nn 1 ee) rs (by omega) (by omega) _) (cwV 2 hts (gT (inV (mr10 _ (List.mem_of_getElem? (i := 10) rfl)) (mr10 _ (List.mem_of_getElem? (i := 11) rfl)) (mr10 _ (List.mem_of_getElem? (i := 12) rfl)) (mr5 _ (List.mem_of_getElem? (i := 18) rfl)) (mr10 _ (List.mem_of_getElem? (i := 13) rfl)))) rfl rfl rfl (by decide +kernel) ⟨Nat.le_of_ble_eq_true rfl, Nat.le_of_ble_eq_true rfl⟩) (Wd.preV zo hA hZ hw hK m_a0 o_a0 rfl) rfl rfl hl.1 rfl (lv_room (Nat.le_of_ble_eq_true rfl)) dX5_readMonths_58 ⟨Nat.le_of_ble_eq_true rfl, Nat.le_of_ble_eq_true rfl⟩) (fun x_24 L1 f_25 H locs lx_24 ux_24 ex_24 hw => ?_)
      obtain ⟨rfl, hg, hX, ex_24⟩ := ex_24
      have hE := hE.trans hX
      have o_a0 := hX.1.1 _ _ o_a0
      have t58 := ex_24
      refine q_puti (ci := 4) (C := RX5) (T := TX5) (N := 10) hx hb hts (fun w h => List.mem_cons_of_mem _ (mfX50 w h)) hown hK hw m_a0 o_a0 rfl 8 (by decide) (hts _ (List.mem_cons_of_mem _ (mr6 _ (List.mem_of_getElem? (i := 9) rfl)))) (fun _ h => h) tyX5 tyX5_ok nmX5 rfl (ty := .int) (by decide +kernel) rfl rfl dX5_readMonths_61 (fun H locs hw => ?_)
      have oo := o_a0
      obtain ⟨f_26, ef_26⟩ : ∃ g : Nat → va_E, g = pU f_25 a0 8 (.int (iI x_24)) := ⟨_, rfl⟩
      have hX : Ex cy f_25 f_26 := by rw [ef_26]; exact Ex_pU oo rfl rfl (by decide)
      have hg : GI cy L0 f_26 := by rw [ef_26]; exact hg.putI oo rfl ⟨lx_24, ux_24⟩ trivial
      rw [← ef_26] at hw
      have hE := hE.trans hX
      have o_a0 := hX.1.1 _ _ o_a0
      have vf_26 : fI f_26 a0 8 = x_24 := by rw [ef_26]; exact fI_pU_self oo rfl ⟨lx_24, ux_24⟩
      have eg61 := ef_26
      have oo61 := oo
      refine lv_aload_n hx hb dX5_readMonths_64 rfl (lv_at hl 0 rfl) ?_
      refine q_geti (ci := 4) (C := RX5) (T := TX5) (N := 10) hx hb hts (fun w h => List.mem_cons_of_mem _ (mfX50 w h)) hown hK hw m_a0 o_a0 rfl 8 (by decide) (hts _ (List.mem_cons_of_mem _ (mr6 _ (List.mem_of_getElem? (i := 9) rfl)))) (fun _ h => h) rfl dX5_readMonths_65 (fun x_27 lx_27 ux_27 ex_27 => ?_)
      refine q_iconst hx hb dX5_readMonths_68 ?_
      refine q_icmp_eq (tgt := 76) hx hb dX5_readMonths_69 (by decide) ⟨lx_27, ux_27⟩ ⟨by decide, by decide⟩ (fun c69 => ?_) (fun c69 => ?_)
      · obtain ⟨w58, q2, qo, q5⟩ := t58.resolve_left (by omega)
        have oa := (oa.trans qo).put eg61
        have q5 : fI f_26 a0 5 = nS Tt nn (tQn Tt nn 1 ee) 1 28 := Eq.trans (by rw [eg61]; exact fI_pU (Or.inr (by decide))) q5
        refine q_iconst hx hb dX5_readMonths_76 ?_
        exact q_ret_z hx hb hr hlocks hK hAe hw (by omega) (Nat.le_of_ble_eq_true rfl) (Nat.le_of_ble_eq_true rfl) dX5_readMonths_77 (by (have z := mo_end' w3 w42; first | exact ⟨rfl, hg, hE, Or.inl ⟨by omega, z.1.trans w58, oa, kx.to ((z).2.1) rfl ((z).2.2.1) ((z).2.2.2.1), rt, rs.to ((z).2.2.2.2)⟩⟩ | exact ⟨rfl, hg, hE, Or.inr ⟨by omega, by omega, oa, by omega⟩⟩))
      · obtain ⟨w58, q2, q3, q4, qo, qk, rt, rs⟩ := t58.resolve_right (by omega)
        have oa := (oa.trans qo).put eg61
        have kx : K69 f_26 a0 Fq 4 n0 (vN Tt nn (tQn Tt nn 1 ee)) 0 := (kx.k5 qk).p8 oo61 ⟨by omega, by omega⟩ eg61 q2
        have rt := rt.put eg61 (by decide)
        have rs := rs.put eg61 (by decide)
        have rs1 := rs.1
        have rs2 := rs.2.1
        have rs3 := rs.2.2
        refine q_iconst hx hb dX5_readMonths_72 ?_
        refine lv_goto (tgt := 77) hx hb dX5_readMonths_73 (by decide) ?_
        exact q_ret_z hx hb hr hlocks hK hAe hw (by omega) (Nat.le_of_ble_eq_true rfl) (Nat.le_of_ble_eq_true rfl) dX5_readMonths_77 (by (have z := mo_end' w3 w42; first | exact ⟨rfl, hg, hE, Or.inl ⟨by omega, z.1.trans w58, oa, kx.to ((z).2.1) rfl ((z).2.2.1) ((z).2.2.2.1), rt, rs.to ((z).2.2.2.2)⟩⟩ | exact ⟨rfl, hg, hE, Or.inr ⟨by omega, by omega, oa, by omega⟩⟩))
  · obtain ⟨_, w3, qo, qk, rt, rs⟩ := t3.resolve_right (by omega)
    have oa := oa.trans qo
    have kx : K69 f_3 a0 Fq k0 n0 0 0 := kx.k5 qk
    have rs1 := rs.1
    have rs2 := rs.2.1
    have rs3 := rs.2.2
    refine lv_aload_n hx hb dX5_readMonths_9 rfl (lv_at hl 0 rfl) ?_
    refine q_iconst hx hb dX5_readMonths_10 ?_
    refine q_puti (ci := 4) (C := RX5) (T := TX5) (N := 10) hx hb hts (fun w h => List.mem_cons_of_mem _ (mfX50 w h)) hown hK hw m_a0 o_a0 rfl 6 (by decide) (hts _ (List.mem_cons_of_mem _ (mr6 _ (List.mem_of_getElem? (i := 7) rfl)))) (fun _ h => h) tyX5 tyX5_ok nmX5 rfl (ty := .int) (by decide +kernel) rfl rfl dX5_readMonths_11 (fun H locs hw => ?_)
    have oo := o_a0
    obtain ⟨f_28, ef_28⟩ : ∃ g : Nat → va_E, g = pU f_3 a0 6 (.int (iI 3)) := ⟨_, rfl⟩
    have hX : Ex cy f_3 f_28 := by rw [ef_28]; exact Ex_pU oo rfl rfl (by decide)
    have hg : GI cy L0 f_28 := by rw [ef_28]; exact hg.putI oo rfl ⟨by decide, by decide⟩ trivial
    rw [← ef_28] at hw
    have hE := hE.trans hX
    have o_a0 := hX.1.1 _ _ o_a0
    have vf_28 : fI f_28 a0 6 = 3 := by rw [ef_28]; exact fI_pU_self oo rfl ⟨by decide, by decide⟩
    have oa := oa.put ef_28
    have rt := rt.put ef_28 (by decide)
    have rs := rs.put ef_28 (by decide)
    have kx := kx.p6 oo ⟨by omega, by omega⟩ ef_28 rfl
    have rs1 := rs.1
    have rs2 := rs.2.1
    have rs3 := rs.2.2
    refine lv_aload_n hx hb dX5_readMonths_14 rfl (lv_at hl 0 rfl) ?_
    refine lv_aload_n hx hb dX5_readMonths_15 rfl (lv_at hl 0 rfl) ?_
    refine q_iconst hx hb dX5_readMonths_16 ?_
    refine q_bipush hx hb dX5_readMonths_17 rfl ?_
    refine q_call_i hA hK hw (va_runV (As := [.int (iI 1), .int (iI 31)]) (rest := [.ref a0]) ⟨hx, hb, hml, hown, hts⟩ (c_X5_takeNumber_q zo l D cy L0 f_28 a0 1 (by decide) (by decide) 31 (by decide) (by decide) m_a0 o_a0 hg Tt nn tp rt (tQn Tt nn 1 ee) rs (by omega) (by omega) _) (cwV 2 hts (gT (inV (mr10 _ (List.mem_of_getElem? (i := 10) rfl)) (mr10 _ (List.mem_of_getElem? (i := 11) rfl)) (mr10 _ (List.mem_of_getElem? (i := 12) rfl)) (mr5 _ (List.mem_of_getElem? (i := 18) rfl)) (mr10 _ (List.mem_of_getElem? (i := 13) rfl)))) rfl rfl rfl (by decide +kernel) ⟨Nat.le_of_ble_eq_true rfl, Nat.le_of_ble_eq_true rfl⟩) (Wd.preV zo hA hZ hw hK m_a0 o_a0 rfl) rfl rfl hl.1 rfl (lv_room (Nat.le_of_ble_eq_true rfl)) dX5_readMonths_19 ⟨Nat.le_of_ble_eq_true rfl, Nat.le_of_ble_eq_true rfl⟩) (fun x_29 L1 f_30 H locs lx_29 ux_29 ex_29 hw => ?_)
    obtain ⟨rfl, hg, hX, ex_29⟩ := ex_29
    have hE := hE.trans hX
    have o_a0 := hX.1.1 _ _ o_a0
    have t19 := ex_29
    refine q_puti (ci := 4) (C := RX5) (T := TX5) (N := 10) hx hb hts (fun w h => List.mem_cons_of_mem _ (mfX50 w h)) hown hK hw m_a0 o_a0 rfl 8 (by decide) (hts _ (List.mem_cons_of_mem _ (mr6 _ (List.mem_of_getElem? (i := 9) rfl)))) (fun _ h => h) tyX5 tyX5_ok nmX5 rfl (ty := .int) (by decide +kernel) rfl rfl dX5_readMonths_22 (fun H locs hw => ?_)
    have oo := o_a0
    obtain ⟨f_31, ef_31⟩ : ∃ g : Nat → va_E, g = pU f_30 a0 8 (.int (iI x_29)) := ⟨_, rfl⟩
    have hX : Ex cy f_30 f_31 := by rw [ef_31]; exact Ex_pU oo rfl rfl (by decide)
    have hg : GI cy L0 f_31 := by rw [ef_31]; exact hg.putI oo rfl ⟨lx_29, ux_29⟩ trivial
    rw [← ef_31] at hw
    have hE := hE.trans hX
    have o_a0 := hX.1.1 _ _ o_a0
    have vf_31 : fI f_31 a0 8 = x_29 := by rw [ef_31]; exact fI_pU_self oo rfl ⟨lx_29, ux_29⟩
    have eg22 := ef_31
    have oo22 := oo
    refine lv_aload_n hx hb dX5_readMonths_25 rfl (lv_at hl 0 rfl) ?_
    refine q_geti (ci := 4) (C := RX5) (T := TX5) (N := 10) hx hb hts (fun w h => List.mem_cons_of_mem _ (mfX50 w h)) hown hK hw m_a0 o_a0 rfl 8 (by decide) (hts _ (List.mem_cons_of_mem _ (mr6 _ (List.mem_of_getElem? (i := 9) rfl)))) (fun _ h => h) rfl dX5_readMonths_26 (fun x_32 lx_32 ux_32 ex_32 => ?_)
    refine q_iconst hx hb dX5_readMonths_29 ?_
    refine q_icmp_eq (tgt := 37) hx hb dX5_readMonths_30 (by decide) ⟨lx_32, ux_32⟩ ⟨by decide, by decide⟩ (fun c30 => ?_) (fun c30 => ?_)
    · obtain ⟨w19, q2, qo, q5⟩ := t19.resolve_left (by omega)
      have oa := (oa.trans qo).put eg22
      have q5 : fI f_31 a0 5 = nS Tt nn (tQn Tt nn 1 ee) 1 31 := Eq.trans (by rw [eg22]; exact fI_pU (Or.inr (by decide))) q5
      refine q_iconst hx hb dX5_readMonths_37 ?_
      exact q_ret_z hx hb hr hlocks hK hAe hw (by omega) (Nat.le_of_ble_eq_true rfl) (Nat.le_of_ble_eq_true rfl) dX5_readMonths_38 (by (have z := mo_on w3; first | exact ⟨rfl, hg, hE, Or.inl ⟨by omega, z.1.trans w19, oa, kx.to ((z).2.1) rfl ((z).2.2.1) ((z).2.2.2.1), rt, rs.to ((z).2.2.2.2)⟩⟩ | exact ⟨rfl, hg, hE, Or.inr ⟨by omega, by omega, oa, by omega⟩⟩))
    · obtain ⟨w19, q2, q3, q4, qo, qk, rt, rs⟩ := t19.resolve_right (by omega)
      have oa := (oa.trans qo).put eg22
      have kx : K69 f_31 a0 Fq 3 n0 (vN Tt nn (tQn Tt nn 1 ee)) 0 := (kx.k5 qk).p8 oo22 ⟨by omega, by omega⟩ eg22 q2
      have rt := rt.put eg22 (by decide)
      have rs := rs.put eg22 (by decide)
      have rs1 := rs.1
      have rs2 := rs.2.1
      have rs3 := rs.2.2
      refine q_iconst hx hb dX5_readMonths_33 ?_
      refine lv_goto (tgt := 38) hx hb dX5_readMonths_34 (by decide) ?_
      exact q_ret_z hx hb hr hlocks hK hAe hw (by omega) (Nat.le_of_ble_eq_true rfl) (Nat.le_of_ble_eq_true rfl) dX5_readMonths_38 (by (have z := mo_on w3; first | exact ⟨rfl, hg, hE, Or.inl ⟨by omega, z.1.trans w19, oa, kx.to ((z).2.1) rfl ((z).2.2.1) ((z).2.2.2.1), rt, rs.to ((z).2.2.2.2)⟩⟩ | exact ⟨rfl, hg, hE, Or.inr ⟨by omega, by omega, oa, by omega⟩⟩))
set_option maxHeartbeats 4000000 in
set_option maxRecDepth 100000 in
theorem c_X5_readWeekdays_p {Z : Zt} (zo : Zok Z) (l : Launch) (D : va_G) (cy : Cy) (L0 : List Nat) (f0 : Nat → va_E) (a0 : Nat) (m_a0 : a0 ∈ L0) (o_a0 : Ob f0 a0 4) (hg : GI cy L0 f0) (Tt : Int → Int) (nn : Int) (tp : Nat) (rt : RT Tt nn f0 a0 tp) (ee : Int) (rs : RS Tt nn f0 a0 ee) (e0 : 0 ≤ ee) (e1 : ee ≤ nn) (Fq : Int) (k0 : Int) (n0 : Int) (w0 : Int) (kx : K69 f0 a0 Fq k0 n0 0 w0) : Ci Z l yX5_readWeekdays (Cond.code yX5_readWeekdays cX5_readWeekdays 3 (some .boolean) :: TB) ({ frames := 6, cells := 0, slots := 0, locals := 130 } : Room) 0 0 D (tq cy) [.ref a0] L0 f0 (fun (r : Int) (L1 : List Nat) (f1 : Nat → va_E) => L0 = L1 ∧ GI cy L0 f1 ∧ Ex cy f0 f1 ∧ ((r = 1 ∧ (wkF Tt nn 8 ee 0).1 = 0 ∧ OA f0 f1 a0 ∧ K69 f1 a0 Fq k0 n0 (wkF Tt nn 8 ee 0).2.1 w0 ∧ RT Tt nn f1 a0 tp ∧ RS Tt nn f1 a0 (wkF Tt nn 8 ee 0).2.2 ∧ 1 ≤ (wkF Tt nn 8 ee 0).2.1 ∧ (wkF Tt nn 8 ee 0).2.1 ≤ 127 ∧ 0 ≤ (wkF Tt nn 8 ee 0).2.2 ∧ (wkF Tt nn 8 ee 0).2.2 ≤ nn) ∨ (r = 0 ∧ (wkF Tt nn 8 ee 0).1 ≠ 0 ∧ OA f0 f1 a0 ∧ fI f1 a0 5 = (wkF Tt nn 8 ee 0).1))) := by
  refine Ci.enter (cc := cX5_readWeekdays) (n := 3) rfl (plainFor_of_name (by decide)) (Nat.le_of_ble_eq_true rfl) ?_
  intro p e s m below meth c ls A hx hb hr hts hown hlocks hnm hml hK hA hAe hw hZ hl
  have hown : s.vm.findClass RX5 = some m.cls := hown
  have hl : lv_has ls 3 [(0, .ref a0)] := hl
  have hN : ZN s := (zo.2.2.2.2 _ _ _ hZ).2
  have hE : Ex cy f0 f0 := Ex.refl cy f0
  have nb0 := rt.2.2.1
  have nb1 := rt.2.2.2.1
  have rs1 := rs.1
  have rs2 := rs.2.1
  have rs3 := rs.2.2
  have pb := tP_b (T := Tt) e1
  have qb := tQ_b (T := Tt) e1
  have oa := OA.refl f0 a0
  have kv0 := kx.2.2.2.1
  refine q_iconst hx hb dX5_readWeekdays_0 ?_
  refine lv_istore_n (lv' := [(1, .int (iI 0)), (0, .ref a0)]) hx hb dX5_readWeekdays_1 rfl hl (by decide) rfl (fun ls hl => ?_)
  have J2 : ∀ (n2 : Nat) (y1_2 : Int) (ly1_2 : -2147483648 ≤ y1_2) (uy1_2 : y1_2 ≤ 2147483647) (L : List Nat) (fw2 : Nat → va_E) (hg : GI cy L0 fw2) (hE : Ex cy f0 fw2) (o_a0 : Ob fw2 a0 4) (i0 : 0 ≤ y1_2) (i8 : y1_2 ≤ 8) (oa : OA f0 fw2 a0) (rt : RT Tt nn fw2 a0 tp) (rs : RS Tt nn fw2 a0 (tQn Tt nn (y1_2).toNat ee)) (kx : K69 fw2 a0 Fq k0 n0 (fI fw2 a0 8) w0) (sb0 : 0 ≤ fI fw2 a0 8) (sb1 : fI fw2 a0 8 ≤ 127) (bc : bcU (fI fw2 a0 8) 7 = y1_2) (wk : (wkF Tt nn 8 ee 0) = wkF Tt nn (8 - y1_2).toNat (tQn Tt nn (y1_2).toNat ee) (fI fw2 a0 8)) (hn2 : ((2147483647 : Int) - y1_2).toNat < n2) (H : Heap) (locs : List Loc) (ls : Array Slot) (hw : Wd D A s.heap L0 fw2 H locs) (hl : lv_has ls 3 [(0, .ref a0), (1, .int (iI y1_2))]), W p l e ({ frames := 6, cells := 0, slots := 0, locals := 130 } : Room) s m ([.ref a0] : List Value).toArray below meth c H locs (0) (0) (MQ below (Qi D (tq cy) L0 f0 s.heap.size (fun (r : Int) (L1 : List Nat) (f1 : Nat → va_E) => L0 = L1 ∧ GI cy L0 f1 ∧ Ex cy f0 f1 ∧ ((r = 1 ∧ (wkF Tt nn 8 ee 0).1 = 0 ∧ OA f0 f1 a0 ∧ K69 f1 a0 Fq k0 n0 (wkF Tt nn 8 ee 0).2.1 w0 ∧ RT Tt nn f1 a0 tp ∧ RS Tt nn f1 a0 (wkF Tt nn 8 ee 0).2.2 ∧ 1 ≤ (wkF Tt nn 8 ee 0).2.1 ∧ (wkF Tt nn 8 ee 0).2.1 ≤ 127 ∧ 0 ≤ (wkF Tt nn 8 ee 0).2.2 ∧ (wkF Tt nn 8 ee 0).2.2 ≤ nn) ∨ (r = 0 ∧ (wkF Tt nn 8 ee 0).1 ≠ 0 ∧ OA f0 f1 a0 ∧ fI f1 a0 5 = (wkF Tt nn 8 ee 0).1)))) ([.ref a0] : List Value).toArray s 0 0 A) (F0 m 2 ls []) := by
    intro n2
    induction n2 with
    | zero => intro y1_2 ly1_2 uy1_2 L fw2 hg hE o_a0 i0 i8 oa rt rs kx sb0 sb1 bc wk hn2; exact absurd hn2 (Nat.not_lt_zero _)
    | succ n2 ih2 =>
      intro y1_2 ly1_2 uy1_2 L fw2 hg hE o_a0 i0 i8 oa rt rs kx sb0 sb1 bc wk hn2 H locs ls hw hl
      have tbi := tQn_b (T := Tt) e0 e1 (y1_2).toNat
      obtain ⟨E, eE⟩ : ∃ z : Int, z = tQn Tt nn (y1_2).toNat ee := ⟨_, rfl⟩
      obtain ⟨S9, eS⟩ : ∃ z : Int, z = fI fw2 a0 8 := ⟨_, rfl⟩
      rw [← eE, ← eS] at wk
      rw [← eE] at rs tbi
      rw [← eS] at bc kx
      have wbE := wdv_b Tt nn E
      have bb9 := bcU_b S9 7
      have rs1 := rs.1
      have rs2 := rs.2.1
      have rs3 := rs.2.2
      have pbE := tP_b (T := Tt) tbi.2
      have qbE := tQ_b (T := Tt) tbi.2
      refine lv_iload_n hx hb dX5_readWeekdays_2 rfl (lv_at hl 1 rfl) ?_
      refine q_bipush hx hb dX5_readWeekdays_3 rfl ?_
      have J58 : ∀ (x58 : wdv Tt nn E = -1) (H : Heap) (locs : List Loc) (ls : Array Slot) (hw : Wd D A s.heap L0 fw2 H locs) (hl : lv_has ls 3 [(0, .ref a0)]), W p l e ({ frames := 6, cells := 0, slots := 0, locals := 130 } : Room) s m ([.ref a0] : List Value).toArray below meth c H locs (0) (0) (MQ below (Qi D (tq cy) L0 f0 s.heap.size (fun (r : Int) (L1 : List Nat) (f1 : Nat → va_E) => L0 = L1 ∧ GI cy L0 f1 ∧ Ex cy f0 f1 ∧ ((r = 1 ∧ (wkF Tt nn 8 ee 0).1 = 0 ∧ OA f0 f1 a0 ∧ K69 f1 a0 Fq k0 n0 (wkF Tt nn 8 ee 0).2.1 w0 ∧ RT Tt nn f1 a0 tp ∧ RS Tt nn f1 a0 (wkF Tt nn 8 ee 0).2.2 ∧ 1 ≤ (wkF Tt nn 8 ee 0).2.1 ∧ (wkF Tt nn 8 ee 0).2.1 ≤ 127 ∧ 0 ≤ (wkF Tt nn 8 ee 0).2.2 ∧ (wkF Tt nn 8 ee 0).2.2 ≤ nn) ∨ (r = 0 ∧ (wkF Tt nn 8 ee 0).1 ≠ 0 ∧ OA f0 f1 a0 ∧ fI f1 a0 5 = (wkF Tt nn 8 ee 0).1)))) ([.ref a0] : List Value).toArray s 0 0 A) (F0 m 58 ls []) := by
        intro x58 H locs ls hw hl
        refine lv_aload_n hx hb dX5_readWeekdays_58 rfl (lv_at hl 0 rfl) ?_
        refine q_geti (ci := 4) (C := RX5) (T := TX5) (N := 10) hx hb hts (fun w h => List.mem_cons_of_mem _ (mfX50 w h)) hown hK hw m_a0 o_a0 rfl 8 (by decide) (hts _ (List.mem_cons_of_mem _ (mr6 _ (List.mem_of_getElem? (i := 9) rfl)))) (fun _ h => h) rfl dX5_readWeekdays_59 (fun x_1 lx_1 ux_1 ex_1 => ?_)
        refine q_if_ne (tgt := 73) hx hb dX5_readWeekdays_62 (by decide) ⟨lx_1, ux_1⟩ (fun c62 => ?_) (fun c62 => ?_)
        · refine q_iconst hx hb dX5_readWeekdays_73 ?_
          refine lv_goto (tgt := 78) hx hb dX5_readWeekdays_74 (by decide) ?_
          exact q_ret_z hx hb hr hlocks hK hAe hw (by omega) (Nat.le_of_ble_eq_true rfl) (Nat.le_of_ble_eq_true rfl) dX5_readWeekdays_78 (by (have z := wk.trans (wk_stop (by omega) x58); have z1 : (wkF Tt nn 8 ee 0).1 = (if S9 = 0 then 8 * tP Tt nn E + 1 else 0) := (by rw [z]); have z2 : (wkF Tt nn 8 ee 0).2.1 = S9 := (by rw [z]); have z3 : (wkF Tt nn 8 ee 0).2.2 = E := (by rw [z]); first | exact ⟨rfl, hg, hE, Or.inl ⟨by omega, z1.trans (if_neg (by omega)), oa, kx.to rfl rfl z2 rfl, rt, rs.to z3, by omega, by omega, by omega, by omega⟩⟩ | (have z4 := z1.trans (if_pos (show S9 = 0 by omega)); exact ⟨rfl, hg, hE, Or.inr ⟨by omega, by omega, oa, by omega⟩⟩)))
        · refine lv_aload_n hx hb dX5_readWeekdays_65 rfl (lv_at hl 0 rfl) ?_
          refine q_iconst hx hb dX5_readWeekdays_66 ?_
          refine q_call_i hA hK hw (va_runV (As := [.int (iI 1)]) (rest := []) ⟨hx, hb, hml, hown, hts⟩ (c_X5_refuse_p zo l D cy L0 fw2 a0 1 (by decide) (by decide) m_a0 o_a0 hg (by omega) (by omega) (by omega) (by omega) _) (cwV 1 hts (gT (inV (mr10 _ (List.mem_of_getElem? (i := 6) rfl)) (mr10 _ (List.mem_of_getElem? (i := 7) rfl)) (mr10 _ (List.mem_of_getElem? (i := 8) rfl)) (mr5 _ (List.mem_of_getElem? (i := 18) rfl)) (mr10 _ (List.mem_of_getElem? (i := 9) rfl)))) rfl rfl rfl (by decide +kernel) ⟨Nat.le_of_ble_eq_true rfl, Nat.le_of_ble_eq_true rfl⟩) (Wd.preV zo hA hZ hw hK m_a0 o_a0 rfl) rfl rfl hl.1 rfl (lv_room (Nat.le_of_ble_eq_true rfl)) dX5_readWeekdays_67 ⟨Nat.le_of_ble_eq_true rfl, Nat.le_of_ble_eq_true rfl⟩) (fun x_2 L1 f_3 H locs lx_2 ux_2 ex_2 hw => ?_)
          obtain ⟨rfl, hg, hX, ex_2⟩ := ex_2
          have hE := hE.trans hX
          have o_a0 := hX.1.1 _ _ o_a0
          have t67 := ex_2
          have oa := oa.trans t67.2.1
          refine q_if_eq (tgt := 77) hx hb dX5_readWeekdays_70 (by decide) ⟨lx_2, ux_2⟩ (fun c70 => ?_) (fun c70 => ?_)
          · refine q_iconst hx hb dX5_readWeekdays_77 ?_
            exact q_ret_z hx hb hr hlocks hK hAe hw (by omega) (Nat.le_of_ble_eq_true rfl) (Nat.le_of_ble_eq_true rfl) dX5_readWeekdays_78 (by (have z := wk.trans (wk_stop (by omega) x58); have z1 : (wkF Tt nn 8 ee 0).1 = (if S9 = 0 then 8 * tP Tt nn E + 1 else 0) := (by rw [z]); have z2 : (wkF Tt nn 8 ee 0).2.1 = S9 := (by rw [z]); have z3 : (wkF Tt nn 8 ee 0).2.2 = E := (by rw [z]); first | exact ⟨rfl, hg, hE, Or.inl ⟨by omega, z1.trans (if_neg (by omega)), oa, kx.to rfl rfl z2 rfl, rt, rs.to z3, by omega, by omega, by omega, by omega⟩⟩ | (have z4 := z1.trans (if_pos (show S9 = 0 by omega)); exact ⟨rfl, hg, hE, Or.inr ⟨by omega, by omega, oa, by omega⟩⟩)))
          · refine q_iconst hx hb dX5_readWeekdays_73 ?_
            refine lv_goto (tgt := 78) hx hb dX5_readWeekdays_74 (by decide) ?_
            exact q_ret_z hx hb hr hlocks hK hAe hw (by omega) (Nat.le_of_ble_eq_true rfl) (Nat.le_of_ble_eq_true rfl) dX5_readWeekdays_78 (by (have z := wk.trans (wk_stop (by omega) x58); have z1 : (wkF Tt nn 8 ee 0).1 = (if S9 = 0 then 8 * tP Tt nn E + 1 else 0) := (by rw [z]); have z2 : (wkF Tt nn 8 ee 0).2.1 = S9 := (by rw [z]); have z3 : (wkF Tt nn 8 ee 0).2.2 = E := (by rw [z]); first | exact ⟨rfl, hg, hE, Or.inl ⟨by omega, z1.trans (if_neg (by omega)), oa, kx.to rfl rfl z2 rfl, rt, rs.to z3, by omega, by omega, by omega, by omega⟩⟩ | (have z4 := z1.trans (if_pos (show S9 = 0 by omega)); exact ⟨rfl, hg, hE, Or.inr ⟨by omega, by omega, oa, by omega⟩⟩)))
      refine q_icmp_ge (tgt := 58) hx hb dX5_readWeekdays_5 (by decide) ⟨ly1_2, uy1_2⟩ ⟨by decide, by decide⟩ (fun c5 => ?_) (fun c5 => ?_)
      · exact J58 (by omega) _ _ _ hw (lv_sub hl [0] rfl)
      · refine lv_aload_n hx hb dX5_readWeekdays_8 rfl (lv_at hl 0 rfl) ?_
        refine q_call_i hA hK hw (va_runV (As := []) (rest := []) ⟨hx, hb, hml, hown, hts⟩ (c_X5_weekdayHere_q zo l D cy L0 fw2 a0 m_a0 o_a0 hg Tt nn tp rt E rs (by omega) (by omega) _) (cwV 0 hts (gT (inV (mr10 _ (List.mem_of_getElem? (i := 22) rfl)) (mr10 _ (List.mem_of_getElem? (i := 23) rfl)) (mr11 _ (List.mem_of_getElem? (i := 0) rfl)) (mr5 _ (List.mem_of_getElem? (i := 18) rfl)) (mr11 _ (List.mem_of_getElem? (i := 1) rfl)))) rfl rfl rfl (by decide +kernel) ⟨Nat.le_of_ble_eq_true rfl, Nat.le_of_ble_eq_true rfl⟩) (Wd.preV zo hA hZ hw hK m_a0 o_a0 rfl) rfl rfl hl.1 rfl (lv_room (Nat.le_of_ble_eq_true rfl)) dX5_readWeekdays_9 ⟨Nat.le_of_ble_eq_true rfl, Nat.le_of_ble_eq_true rfl⟩) (fun x_4 L1 f1 H locs lx_4 ux_4 ex_4 hw => ?_)
        obtain ⟨rfl, rfl, ex_4⟩ := ex_4
        have t9 := ex_4
        refine q_iconst hx hb dX5_readWeekdays_12 ?_
        refine q_icmp_eq (tgt := 58) hx hb dX5_readWeekdays_13 (by decide) ⟨lx_4, ux_4⟩ ⟨by decide, by decide⟩ (fun c13 => ?_) (fun c13 => ?_)
        · exact J58 (by omega) _ _ _ hw (lv_sub hl [0] rfl)
        · refine q_iconst hx hb dX5_readWeekdays_16 ?_
          refine lv_aload_n hx hb dX5_readWeekdays_17 rfl (lv_at hl 0 rfl) ?_
          refine q_call_i hA hK hw (va_runV (As := []) (rest := [.int (iI 1)]) ⟨hx, hb, hml, hown, hts⟩ (c_X5_weekdayHere_q zo l D cy L0 fw2 a0 m_a0 o_a0 hg Tt nn tp rt E rs (by omega) (by omega) _) (cwV 0 hts (gT (inV (mr10 _ (List.mem_of_getElem? (i := 22) rfl)) (mr10 _ (List.mem_of_getElem? (i := 23) rfl)) (mr11 _ (List.mem_of_getElem? (i := 0) rfl)) (mr5 _ (List.mem_of_getElem? (i := 18) rfl)) (mr11 _ (List.mem_of_getElem? (i := 1) rfl)))) rfl rfl rfl (by decide +kernel) ⟨Nat.le_of_ble_eq_true rfl, Nat.le_of_ble_eq_true rfl⟩) (Wd.preV zo hA hZ hw hK m_a0 o_a0 rfl) rfl rfl hl.1 rfl (lv_room (Nat.le_of_ble_eq_true rfl)) dX5_readWeekdays_18 ⟨Nat.le_of_ble_eq_true rfl, Nat.le_of_ble_eq_true rfl⟩) (fun x_5 L1 f1 H locs lx_5 ux_5 ex_5 hw => ?_)
          obtain ⟨rfl, rfl, ex_5⟩ := ex_5
          have t18 := ex_5
          refine lv_ishl hx hb dX5_readWeekdays_21 ?_
          refine q_num (fun x_6 lx_6 ux_6 ex_6 => ?_)
          have b21 := ex_6
          refine lv_istore_n (lv' := [(2, .int (iI x_6)), (0, .ref a0), (1, .int (iI y1_2))]) hx hb dX5_readWeekdays_22 rfl hl (by decide) rfl (fun ls hl => ?_)
          refine lv_aload_n hx hb dX5_readWeekdays_23 rfl (lv_at hl 1 rfl) ?_
          refine q_geti (ci := 4) (C := RX5) (T := TX5) (N := 10) hx hb hts (fun w h => List.mem_cons_of_mem _ (mfX50 w h)) hown hK hw m_a0 o_a0 rfl 8 (by decide) (hts _ (List.mem_cons_of_mem _ (mr6 _ (List.mem_of_getElem? (i := 9) rfl)))) (fun _ h => h) rfl dX5_readWeekdays_24 (fun x_7 lx_7 ux_7 ex_7 => ?_)
          have v24 := ex_7.trans eS.symm
          refine lv_iload_n hx hb dX5_readWeekdays_27 rfl (lv_at hl 0 rfl) ?_
          refine lv_iand hx hb dX5_readWeekdays_28 ?_
          refine q_num (fun x_8 lx_8 ux_8 ex_8 => ?_)
          have o28 := fun (z : Int) => or_at (z := z) (by omega) (by omega) (by omega) (by omega) b21 ex_8
          refine q_if_eq (tgt := 38) hx hb dX5_readWeekdays_29 (by decide) ⟨lx_8, ux_8⟩ (fun c29 => ?_) (fun c29 => ?_)
          · refine lv_aload_n hx hb dX5_readWeekdays_38 rfl (lv_at hl 1 rfl) ?_
            refine lv_dup hx hb dX5_readWeekdays_39 rfl ?_
            refine q_geti (ci := 4) (C := RX5) (T := TX5) (N := 10) hx hb hts (fun w h => List.mem_cons_of_mem _ (mfX50 w h)) hown hK hw m_a0 o_a0 rfl 8 (by decide) (hts _ (List.mem_cons_of_mem _ (mr6 _ (List.mem_of_getElem? (i := 9) rfl)))) (fun _ h => h) rfl dX5_readWeekdays_40 (fun x_9 lx_9 ux_9 ex_9 => ?_)
            have v40 := ex_9.trans eS.symm
            refine lv_iload_n hx hb dX5_readWeekdays_43 rfl (lv_at hl 0 rfl) ?_
            refine lv_ior hx hb dX5_readWeekdays_44 ?_
            refine q_num (fun x_10 lx_10 ux_10 ex_10 => ?_)
            have b44 := ex_10
            rw [v40] at b44
            have ow := o28 x_10
            rw [v24, t18] at ow
            have wf := ow.1.mp (by omega)
            have og := ow.2 wf
            have s44 := og.1 b44
            refine q_puti (ci := 4) (C := RX5) (T := TX5) (N := 10) hx hb hts (fun w h => List.mem_cons_of_mem _ (mfX50 w h)) hown hK hw m_a0 o_a0 rfl 8 (by decide) (hts _ (List.mem_cons_of_mem _ (mr6 _ (List.mem_of_getElem? (i := 9) rfl)))) (fun _ h => h) tyX5 tyX5_ok nmX5 rfl (ty := .int) (by decide +kernel) rfl rfl dX5_readWeekdays_45 (fun H locs hw => ?_)
            have oo := o_a0
            obtain ⟨f_11, ef_11⟩ : ∃ g : Nat → va_E, g = pU fw2 a0 8 (.int (iI x_10)) := ⟨_, rfl⟩
            have hX : Ex cy fw2 f_11 := by rw [ef_11]; exact Ex_pU oo rfl rfl (by decide)
            have hg : GI cy L0 f_11 := by rw [ef_11]; exact hg.putI oo rfl ⟨lx_10, ux_10⟩ trivial
            rw [← ef_11] at hw
            have hE := hE.trans hX
            have o_a0 := hX.1.1 _ _ o_a0
            have vf_11 : fI f_11 a0 8 = x_10 := by rw [ef_11]; exact fI_pU_self oo rfl ⟨lx_10, ux_10⟩
            have oa := oa.put ef_11
            have rt := rt.put ef_11 (by decide)
            have rs := rs.put ef_11 (by decide)
            have kx := kx.p8 oo ⟨by omega, by omega⟩ ef_11 s44
            have rs1 := rs.1
            have rs2 := rs.2.1
            have rs3 := rs.2.2
            refine lv_aload_n hx hb dX5_readWeekdays_48 rfl (lv_at hl 1 rfl) ?_
            refine q_call_v hA hK hw (va_runV (As := []) (rest := []) ⟨hx, hb, hml, hown, hts⟩ (c_X5_step_p zo l D cy L0 f_11 a0 m_a0 o_a0 hg Tt nn tp rt (by omega) (by omega) _) (cwV 0 hts (gT (inV (mr7 _ (List.mem_of_getElem? (i := 2) rfl)) (mr7 _ (List.mem_of_getElem? (i := 3) rfl)) (mr7 _ (List.mem_of_getElem? (i := 4) rfl)) (mr5 _ (List.mem_of_getElem? (i := 18) rfl)) (mr7 _ (List.mem_of_getElem? (i := 5) rfl)))) rfl rfl rfl (by decide +kernel) ⟨Nat.le_of_ble_eq_true rfl, Nat.le_of_ble_eq_true rfl⟩) (Wd.preV zo hA hZ hw hK m_a0 o_a0 rfl) rfl rfl hl.1 rfl (lv_room (Nat.le_of_ble_eq_true rfl)) dX5_readWeekdays_49 ⟨Nat.le_of_ble_eq_true rfl, Nat.le_of_ble_eq_true rfl⟩) (fun L1 f_13 H locs ex_12 hw => ?_)
            obtain ⟨rfl, hg, hX, ex_12⟩ := ex_12
            have hE := hE.trans hX
            have o_a0 := hX.1.1 _ _ o_a0
            have n9 := ex_12
            rw [rs3] at n9
            have oa := oa.trans n9.1
            have kx := kx.k5 n9.2.1
            have rt := n9.2.2.1
            have rs := n9.2.2.2
            have hv := kx.2.2.2.1
            obtain ⟨x_14, lx_14, ux_14, hx_14, ex_14⟩ := q_inc y1_2 (1)
            try (replace ex_14 : x_14 = y1_2 + (1) := by omega)
            refine lv_iinc (v := iI x_14) (lv' := [(1, .int (iI x_14)), (2, .int (iI x_6)), (0, .ref a0)]) hx hb dX5_readWeekdays_52 hl (k := 2) rfl hx_14 (by decide) rfl (fun ls hl => ?_)
            refine lv_goto (tgt := 2) hx hb dX5_readWeekdays_55 (by decide) ?_
            exact ih2 x_14 lx_14 ux_14 L0 f_13 hg hE o_a0 (by omega) (by omega) (by exact oa) (by exact rt) (by first | exact rs | exact rs.to ((tQn_s i0 (by omega)).trans (by rw [eE]))) (by first | exact kx.to rfl rfl kv0 rfl | exact kx.to rfl rfl hv rfl) (by omega) (by omega) (by first | (rw [kv0]; decide) | (rw [hv]; omega)) (by first | (rw [kv0]; rfl) | exact wk_nx wk (by omega) (by omega) wf ((tQn_s i0 (by omega)).trans (by rw [eE])) hv) (by omega) _ _ _ hw (lv_sub hl [2, 0] rfl)
          · refine lv_aload_n hx hb dX5_readWeekdays_32 rfl (lv_at hl 1 rfl) ?_
            refine q_iconst hx hb dX5_readWeekdays_33 ?_
            refine q_call_i hA hK hw (va_runV (As := [.int (iI 2)]) (rest := []) ⟨hx, hb, hml, hown, hts⟩ (c_X5_refuse_p zo l D cy L0 fw2 a0 2 (by decide) (by decide) m_a0 o_a0 hg (by omega) (by omega) (by omega) (by omega) _) (cwV 1 hts (gT (inV (mr10 _ (List.mem_of_getElem? (i := 6) rfl)) (mr10 _ (List.mem_of_getElem? (i := 7) rfl)) (mr10 _ (List.mem_of_getElem? (i := 8) rfl)) (mr5 _ (List.mem_of_getElem? (i := 18) rfl)) (mr10 _ (List.mem_of_getElem? (i := 9) rfl)))) rfl rfl rfl (by decide +kernel) ⟨Nat.le_of_ble_eq_true rfl, Nat.le_of_ble_eq_true rfl⟩) (Wd.preV zo hA hZ hw hK m_a0 o_a0 rfl) rfl rfl hl.1 rfl (lv_room (Nat.le_of_ble_eq_true rfl)) dX5_readWeekdays_34 ⟨Nat.le_of_ble_eq_true rfl, Nat.le_of_ble_eq_true rfl⟩) (fun x_15 L1 f_16 H locs lx_15 ux_15 ex_15 hw => ?_)
            obtain ⟨rfl, hg, hX, ex_15⟩ := ex_15
            have hE := hE.trans hX
            have o_a0 := hX.1.1 _ _ o_a0
            have t34 := ex_15
            have oa := oa.trans t34.2.1
            exact q_ret_z hx hb hr hlocks hK hAe hw (by omega) (Nat.le_of_ble_eq_true rfl) (Nat.le_of_ble_eq_true rfl) dX5_readWeekdays_37 (by (have ow := o28 0; rw [v24, t18] at ow; have z := wk.trans (wk_dup (by omega) (by omega) (by cases h9 : wb S9 (wdv Tt nn E); exact absurd (ow.1.mpr h9) (by omega); rfl)); have z1 : (wkF Tt nn 8 ee 0).1 = 8 * tP Tt nn E + 2 := (by rw [z]); exact ⟨rfl, hg, hE, Or.inr ⟨by omega, by omega, oa, by omega⟩⟩))
  exact J2 ((((2147483647 : Int) - 0).toNat) + 1) 0 (by decide) (by decide) L0 f0 hg hE o_a0 (by omega) (by omega) (by exact oa) (by exact rt) (by first | exact rs | exact rs.to ((tQn_s i0 (by omega)).trans (by rw [eE]))) (by first | exact kx.to rfl rfl kv0 rfl | exact kx.to rfl rfl hv rfl) (by omega) (by omega) (by first | (rw [kv0]; decide) | (rw [hv]; omega)) (by first | (rw [kv0]; rfl) | exact wk_nx wk (by omega) (by omega) wf ((tQn_s i0 (by omega)).trans (by rw [eE])) hv) (by omega) _ _ _ hw (lv_sub hl [1, 0] rfl)
set_option maxHeartbeats 4000000 in
set_option maxRecDepth 100000 in
theorem c_X5_readRule_p {Z : Zt} (zo : Zok Z) (l : Launch) (D : va_G) (cy : Cy) (L0 : List Nat) (f0 : Nat → va_E) (a0 : Nat) (m_a0 : a0 ∈ L0) (o_a0 : Ob f0 a0 4) (hg : GI cy L0 f0) (Tt : Int → Int) (nn : Int) (tp : Nat) (rt : RT Tt nn f0 a0 tp) (ee : Int) (rs : RS Tt nn f0 a0 ee) (e0 : 0 ≤ ee) (e1 : ee ≤ nn) (Fq : Int) (kx : K69 f0 a0 Fq 0 0 0 0) : Ci Z l yX5_readRule (Cond.code yX5_readRule cX5_readRule 1 (some .boolean) :: TB) ({ frames := 8, cells := 0, slots := 0, locals := 171 } : Room) 0 0 D (tq cy) [.ref a0] L0 f0 (fun (r : Int) (L1 : List Nat) (f1 : Nat → va_E) => L0 = L1 ∧ GI cy L0 f1 ∧ Ex cy f0 f1 ∧ ((r = 1 ∧ (ruF Tt nn ee) = 0 ∧ OA f0 f1 a0 ∧ K69 f1 a0 Fq (ruK Tt nn ee) (ruN Tt nn ee) (ruV Tt nn ee) (ruW Tt nn ee) ∧ RT Tt nn f1 a0 tp ∧ RS Tt nn f1 a0 (ruE Tt nn ee)) ∨ (r = 0 ∧ (ruF Tt nn ee) ≠ 0 ∧ OA f0 f1 a0 ∧ fI f1 a0 5 = (ruF Tt nn ee)))) := by
  refine Ci.enter (cc := cX5_readRule) (n := 1) rfl (plainFor_of_name (by decide)) (Nat.le_of_ble_eq_true rfl) ?_
  intro p e s m below meth c ls A hx hb hr hts hown hlocks hnm hml hK hA hAe hw hZ hl
  have hown : s.vm.findClass RX5 = some m.cls := hown
  have hl : lv_has ls 1 [(0, .ref a0)] := hl
  have hN : ZN s := (zo.2.2.2.2 _ _ _ hZ).2
  have hE : Ex cy f0 f0 := Ex.refl cy f0
  have nb0 := rt.2.2.1
  have nb1 := rt.2.2.2.1
  have rs1 := rs.1
  have rs2 := rs.2.1
  have rs3 := rs.2.2
  have pb := tP_b (T := Tt) e1
  have qb := tQ_b (T := Tt) e1
  have oa := OA.refl f0 a0
  have tb1 := tQn_b (T := Tt) e0 e1 1
  have tb2 := tQn_b (T := Tt) e0 e1 2
  have tb3 := tQn_b (T := Tt) e0 e1 3
  refine lv_aload_n hx hb dX5_readRule_0 rfl (lv_at hl 0 rfl) ?_
  obtain ⟨t_1, v_t_1, h_t_1⟩ : ∃ q v : Nat, ∀ (A : Nat → Prop) (U : State) (H : Heap), Z A U H → vk_R RX5 92 "once" q U ∧ Tx [111, 110, 99, 101] q v A U H := ztx_4 zo
  obtain ⟨b_t_1, eb_t_1⟩ : ∃ b : List Int32, b = [111, 110, 99, 101] := ⟨_, rfl⟩
  have nb_t_1 : Asc b_t_1 := by rw [eb_t_1]; exact ⟨by decide, by decide +kernel⟩
  have tx_t_1 : ∀ (A : Nat → Prop) (U : State) (H : Heap), Z A U H → Tx b_t_1 t_1 v_t_1 A U H := fun A U H h => by rw [eb_t_1]; exact (h_t_1 A U H h).2
  refine va_ldcS hx hb hown (h_t_1 _ _ _ hZ).1 dX5_readRule_1 ?_
  have ebw3 : b_t_1 = wOnce := eb_t_1
  refine q_call_i hA hK hw (va_runV (As := [.ref t_1]) (rest := []) ⟨hx, hb, hml, hown, hts⟩ (c_X5_take_q zo l D cy L0 f0 a0 t_1 m_a0 o_a0 b_t_1 v_t_1 nb_t_1 tx_t_1 hg Tt nn tp rt ee rs (by omega) (by omega) _) (cwV 1 hts (gT (inV (mr7 _ (List.mem_of_getElem? (i := 21) rfl)) (mr7 _ (List.mem_of_getElem? (i := 22) rfl)) (mr7 _ (List.mem_of_getElem? (i := 23) rfl)) (mr5 _ (List.mem_of_getElem? (i := 18) rfl)) (mr8 _ (List.mem_of_getElem? (i := 0) rfl)))) rfl rfl rfl (by decide +kernel) ⟨Nat.le_of_ble_eq_true rfl, Nat.le_of_ble_eq_true rfl⟩) (Wd.preV zo hA hZ hw hK m_a0 o_a0 rfl) rfl rfl hl.1 rfl (lv_room (Nat.le_of_ble_eq_true rfl)) dX5_readRule_3 ⟨Nat.le_of_ble_eq_true rfl, Nat.le_of_ble_eq_true rfl⟩) (fun x_2 L1 f_3 H locs lx_2 ux_2 ex_2 hw => ?_)
  obtain ⟨rfl, hg, hX, ex_2⟩ := ex_2
  have hE := hE.trans hX
  have o_a0 := hX.1.1 _ _ o_a0
  have t3 := ex_2
  rw [ebw3] at t3
  refine q_if_eq (tgt := 11) hx hb dX5_readRule_6 (by decide) ⟨lx_2, ux_2⟩ (fun c6 => ?_) (fun c6 => ?_)
  · obtain ⟨_, w3, qz⟩ := t3.resolve_left (by omega)
    have rt : RT Tt nn f_3 a0 tp := by rw [qz]; exact rt
    have rs : RS Tt nn f_3 a0 ee := by rw [qz]; exact rs
    have kx : K69 f_3 a0 Fq 0 0 0 0 := by rw [qz]; exact kx
    have oa : OA f0 f_3 a0 := by rw [qz]; exact oa
    have rs1 := rs.1
    have rs2 := rs.2.1
    have rs3 := rs.2.2
    refine lv_aload_n hx hb dX5_readRule_11 rfl (lv_at hl 0 rfl) ?_
    obtain ⟨t_4, v_t_4, h_t_4⟩ : ∃ q v : Nat, ∀ (A : Nat → Prop) (U : State) (H : Heap), Z A U H → vk_R RX5 97 "every" q U ∧ Tx [101, 118, 101, 114, 121] q v A U H := ztx_5 zo
    obtain ⟨b_t_4, eb_t_4⟩ : ∃ b : List Int32, b = [101, 118, 101, 114, 121] := ⟨_, rfl⟩
    have nb_t_4 : Asc b_t_4 := by rw [eb_t_4]; exact ⟨by decide, by decide +kernel⟩
    have tx_t_4 : ∀ (A : Nat → Prop) (U : State) (H : Heap), Z A U H → Tx b_t_4 t_4 v_t_4 A U H := fun A U H h => by rw [eb_t_4]; exact (h_t_4 A U H h).2
    refine va_ldcS hx hb hown (h_t_4 _ _ _ hZ).1 dX5_readRule_12 ?_
    have ebw14 : b_t_4 = wEvery := eb_t_4
    refine q_call_i hA hK hw (va_runV (As := [.ref t_4]) (rest := []) ⟨hx, hb, hml, hown, hts⟩ (c_X5_require_q zo l D cy L0 f_3 a0 t_4 m_a0 o_a0 b_t_4 v_t_4 nb_t_4 tx_t_4 hg Tt nn tp rt ee rs (by omega) (by omega) _) (cwV 1 hts (gT (inV (mr7 _ (List.mem_of_getElem? (i := 17) rfl)) (mr7 _ (List.mem_of_getElem? (i := 18) rfl)) (mr7 _ (List.mem_of_getElem? (i := 19) rfl)) (mr5 _ (List.mem_of_getElem? (i := 18) rfl)) (mr7 _ (List.mem_of_getElem? (i := 20) rfl)))) rfl rfl rfl (by decide +kernel) ⟨Nat.le_of_ble_eq_true rfl, Nat.le_of_ble_eq_true rfl⟩) (Wd.preV zo hA hZ hw hK m_a0 o_a0 rfl) rfl rfl hl.1 rfl (lv_room (Nat.le_of_ble_eq_true rfl)) dX5_readRule_14 ⟨Nat.le_of_ble_eq_true rfl, Nat.le_of_ble_eq_true rfl⟩) (fun x_5 L1 f_6 H locs lx_5 ux_5 ex_5 hw => ?_)
    obtain ⟨rfl, hg, hX, ex_5⟩ := ex_5
    have hE := hE.trans hX
    have o_a0 := hX.1.1 _ _ o_a0
    have t14 := ex_5
    rw [ebw14] at t14
    refine q_if_ne (tgt := 22) hx hb dX5_readRule_17 (by decide) ⟨lx_5, ux_5⟩ (fun c17 => ?_) (fun c17 => ?_)
    · obtain ⟨_, w14, qo, qk, rt, rs⟩ := t14.resolve_right (by omega)
      have oa := oa.trans qo
      have kx : K69 f_6 a0 Fq 0 0 0 0 := kx.k5 qk
      have rs1 := rs.1
      have rs2 := rs.2.1
      have rs3 := rs.2.2
      refine lv_aload_n hx hb dX5_readRule_22 rfl (lv_at hl 0 rfl) ?_
      refine lv_aload_n hx hb dX5_readRule_23 rfl (lv_at hl 0 rfl) ?_
      refine q_iconst hx hb dX5_readRule_24 ?_
      refine q_sipush hx hb dX5_readRule_25 rfl ?_
      refine q_call_i hA hK hw (va_runV (As := [.int (iI 1), .int (iI 999)]) (rest := [.ref a0]) ⟨hx, hb, hml, hown, hts⟩ (c_X5_takeNumber_q zo l D cy L0 f_6 a0 1 (by decide) (by decide) 999 (by decide) (by decide) m_a0 o_a0 hg Tt nn tp rt (tQn Tt nn 1 ee) rs (by omega) (by omega) _) (cwV 2 hts (gT (inV (mr10 _ (List.mem_of_getElem? (i := 10) rfl)) (mr10 _ (List.mem_of_getElem? (i := 11) rfl)) (mr10 _ (List.mem_of_getElem? (i := 12) rfl)) (mr5 _ (List.mem_of_getElem? (i := 18) rfl)) (mr10 _ (List.mem_of_getElem? (i := 13) rfl)))) rfl rfl rfl (by decide +kernel) ⟨Nat.le_of_ble_eq_true rfl, Nat.le_of_ble_eq_true rfl⟩) (Wd.preV zo hA hZ hw hK m_a0 o_a0 rfl) rfl rfl hl.1 rfl (lv_room (Nat.le_of_ble_eq_true rfl)) dX5_readRule_28 ⟨Nat.le_of_ble_eq_true rfl, Nat.le_of_ble_eq_true rfl⟩) (fun x_7 L1 f_8 H locs lx_7 ux_7 ex_7 hw => ?_)
      obtain ⟨rfl, hg, hX, ex_7⟩ := ex_7
      have hE := hE.trans hX
      have o_a0 := hX.1.1 _ _ o_a0
      have t28 := ex_7
      have q28 : -1 ≤ x_7 ∧ x_7 ≤ 999 := by rcases ex_7 with ⟨_, _, q1, q2, _⟩ | ⟨_, q1, _⟩ <;> omega
      refine q_puti (ci := 4) (C := RX5) (T := TX5) (N := 10) hx hb hts (fun w h => List.mem_cons_of_mem _ (mfX50 w h)) hown hK hw m_a0 o_a0 rfl 7 (by decide) (hts _ (List.mem_cons_of_mem _ (mr6 _ (List.mem_of_getElem? (i := 8) rfl)))) (fun _ h => h) tyX5 tyX5_ok nmX5 rfl (ty := .int) (by decide +kernel) rfl rfl dX5_readRule_31 (fun H locs hw => ?_)
      have oo := o_a0
      obtain ⟨f_9, ef_9⟩ : ∃ g : Nat → va_E, g = pU f_8 a0 7 (.int (iI x_7)) := ⟨_, rfl⟩
      have hX : Ex cy f_8 f_9 := by rw [ef_9]; exact Ex_pU oo rfl rfl (by decide)
      have hg : GI cy L0 f_9 := by rw [ef_9]; exact hg.putI oo rfl ⟨lx_7, ux_7⟩ (by show -1 ≤ x_7 ∧ x_7 ≤ 999; omega)
      rw [← ef_9] at hw
      have hE := hE.trans hX
      have o_a0 := hX.1.1 _ _ o_a0
      have vf_9 : fI f_9 a0 7 = x_7 := by rw [ef_9]; exact fI_pU_self oo rfl ⟨lx_7, ux_7⟩
      have eg31 := ef_9
      have oo31 := oo
      refine lv_aload_n hx hb dX5_readRule_34 rfl (lv_at hl 0 rfl) ?_
      refine q_geti (ci := 4) (C := RX5) (T := TX5) (N := 10) hx hb hts (fun w h => List.mem_cons_of_mem _ (mfX50 w h)) hown hK hw m_a0 o_a0 rfl 7 (by decide) (hts _ (List.mem_cons_of_mem _ (mr6 _ (List.mem_of_getElem? (i := 8) rfl)))) (fun _ h => h) rfl dX5_readRule_35 (fun x_10 lx_10 ux_10 ex_10 => ?_)
      have bx_10 : -1 ≤ x_10 ∧ x_10 ≤ 999 := by rw [ex_10]; exact hg.1 _ m_a0 4 7 o_a0
      refine q_iconst hx hb dX5_readRule_38 ?_
      refine q_icmp_ne (tgt := 44) hx hb dX5_readRule_39 (by decide) ⟨lx_10, ux_10⟩ ⟨by decide, by decide⟩ (fun c39 => ?_) (fun c39 => ?_)
      · obtain ⟨w28, q2, q3, q4, qo, qk, rt, rs⟩ := t28.resolve_right (by omega)
        have oa := (oa.trans qo).put eg31
        have kx : K69 f_9 a0 Fq 0 (vN Tt nn (tQn Tt nn 1 ee)) 0 0 := (kx.k5 qk).p7 oo31 ⟨by omega, by omega⟩ eg31 q2
        have rt := rt.put eg31 (by decide)
        have rs := rs.put eg31 (by decide)
        have rs1 := rs.1
        have rs2 := rs.2.1
        have rs3 := rs.2.2
        refine lv_aload_n hx hb dX5_readRule_44 rfl (lv_at hl 0 rfl) ?_
        obtain ⟨t_11, v_t_11, h_t_11⟩ : ∃ q v : Nat, ∀ (A : Nat → Prop) (U : State) (H : Heap), Z A U H → vk_R RX5 98 "days" q U ∧ Tx [100, 97, 121, 115] q v A U H := ztx_6 zo
        obtain ⟨b_t_11, eb_t_11⟩ : ∃ b : List Int32, b = [100, 97, 121, 115] := ⟨_, rfl⟩
        have nb_t_11 : Asc b_t_11 := by rw [eb_t_11]; exact ⟨by decide, by decide +kernel⟩
        have tx_t_11 : ∀ (A : Nat → Prop) (U : State) (H : Heap), Z A U H → Tx b_t_11 t_11 v_t_11 A U H := fun A U H h => by rw [eb_t_11]; exact (h_t_11 A U H h).2
        refine va_ldcS hx hb hown (h_t_11 _ _ _ hZ).1 dX5_readRule_45 ?_
        have ebw47 : b_t_11 = wDays := eb_t_11
        refine q_call_i hA hK hw (va_runV (As := [.ref t_11]) (rest := []) ⟨hx, hb, hml, hown, hts⟩ (c_X5_take_q zo l D cy L0 f_9 a0 t_11 m_a0 o_a0 b_t_11 v_t_11 nb_t_11 tx_t_11 hg Tt nn tp rt (tQn Tt nn 2 ee) rs (by omega) (by omega) _) (cwV 1 hts (gT (inV (mr7 _ (List.mem_of_getElem? (i := 21) rfl)) (mr7 _ (List.mem_of_getElem? (i := 22) rfl)) (mr7 _ (List.mem_of_getElem? (i := 23) rfl)) (mr5 _ (List.mem_of_getElem? (i := 18) rfl)) (mr8 _ (List.mem_of_getElem? (i := 0) rfl)))) rfl rfl rfl (by decide +kernel) ⟨Nat.le_of_ble_eq_true rfl, Nat.le_of_ble_eq_true rfl⟩) (Wd.preV zo hA hZ hw hK m_a0 o_a0 rfl) rfl rfl hl.1 rfl (lv_room (Nat.le_of_ble_eq_true rfl)) dX5_readRule_47 ⟨Nat.le_of_ble_eq_true rfl, Nat.le_of_ble_eq_true rfl⟩) (fun x_12 L1 f_13 H locs lx_12 ux_12 ex_12 hw => ?_)
        obtain ⟨rfl, hg, hX, ex_12⟩ := ex_12
        have hE := hE.trans hX
        have o_a0 := hX.1.1 _ _ o_a0
        have t47 := ex_12
        rw [ebw47] at t47
        refine q_if_eq (tgt := 60) hx hb dX5_readRule_50 (by decide) ⟨lx_12, ux_12⟩ (fun c50 => ?_) (fun c50 => ?_)
        · obtain ⟨_, w47, qz⟩ := t47.resolve_left (by omega)
          have rt : RT Tt nn f_13 a0 tp := by rw [qz]; exact rt
          have rs : RS Tt nn f_13 a0 (tQn Tt nn 2 ee) := by rw [qz]; exact rs
          have kx : K69 f_13 a0 Fq 0 (vN Tt nn (tQn Tt nn 1 ee)) 0 0 := by rw [qz]; exact kx
          have oa : OA f0 f_13 a0 := by rw [qz]; exact oa
          have rs1 := rs.1
          have rs2 := rs.2.1
          have rs3 := rs.2.2
          refine lv_aload_n hx hb dX5_readRule_60 rfl (lv_at hl 0 rfl) ?_
          obtain ⟨t_14, v_t_14, h_t_14⟩ : ∃ q v : Nat, ∀ (A : Nat → Prop) (U : State) (H : Heap), Z A U H → vk_R RX5 100 "years" q U ∧ Tx [121, 101, 97, 114, 115] q v A U H := ztx_7 zo
          obtain ⟨b_t_14, eb_t_14⟩ : ∃ b : List Int32, b = [121, 101, 97, 114, 115] := ⟨_, rfl⟩
          have nb_t_14 : Asc b_t_14 := by rw [eb_t_14]; exact ⟨by decide, by decide +kernel⟩
          have tx_t_14 : ∀ (A : Nat → Prop) (U : State) (H : Heap), Z A U H → Tx b_t_14 t_14 v_t_14 A U H := fun A U H h => by rw [eb_t_14]; exact (h_t_14 A U H h).2
          refine va_ldcS hx hb hown (h_t_14 _ _ _ hZ).1 dX5_readRule_61 ?_
          have ebw63 : b_t_14 = wYears := eb_t_14
          refine q_call_i hA hK hw (va_runV (As := [.ref t_14]) (rest := []) ⟨hx, hb, hml, hown, hts⟩ (c_X5_take_q zo l D cy L0 f_13 a0 t_14 m_a0 o_a0 b_t_14 v_t_14 nb_t_14 tx_t_14 hg Tt nn tp rt (tQn Tt nn 2 ee) rs (by omega) (by omega) _) (cwV 1 hts (gT (inV (mr7 _ (List.mem_of_getElem? (i := 21) rfl)) (mr7 _ (List.mem_of_getElem? (i := 22) rfl)) (mr7 _ (List.mem_of_getElem? (i := 23) rfl)) (mr5 _ (List.mem_of_getElem? (i := 18) rfl)) (mr8 _ (List.mem_of_getElem? (i := 0) rfl)))) rfl rfl rfl (by decide +kernel) ⟨Nat.le_of_ble_eq_true rfl, Nat.le_of_ble_eq_true rfl⟩) (Wd.preV zo hA hZ hw hK m_a0 o_a0 rfl) rfl rfl hl.1 rfl (lv_room (Nat.le_of_ble_eq_true rfl)) dX5_readRule_63 ⟨Nat.le_of_ble_eq_true rfl, Nat.le_of_ble_eq_true rfl⟩) (fun x_15 L1 f_16 H locs lx_15 ux_15 ex_15 hw => ?_)
          obtain ⟨rfl, hg, hX, ex_15⟩ := ex_15
          have hE := hE.trans hX
          have o_a0 := hX.1.1 _ _ o_a0
          have t63 := ex_15
          rw [ebw63] at t63
          refine q_if_eq (tgt := 77) hx hb dX5_readRule_66 (by decide) ⟨lx_15, ux_15⟩ (fun c66 => ?_) (fun c66 => ?_)
          · obtain ⟨_, w63, qz⟩ := t63.resolve_left (by omega)
            have rt : RT Tt nn f_16 a0 tp := by rw [qz]; exact rt
            have rs : RS Tt nn f_16 a0 (tQn Tt nn 2 ee) := by rw [qz]; exact rs
            have kx : K69 f_16 a0 Fq 0 (vN Tt nn (tQn Tt nn 1 ee)) 0 0 := by rw [qz]; exact kx
            have oa : OA f0 f_16 a0 := by rw [qz]; exact oa
            have rs1 := rs.1
            have rs2 := rs.2.1
            have rs3 := rs.2.2
            refine lv_aload_n hx hb dX5_readRule_77 rfl (lv_at hl 0 rfl) ?_
            obtain ⟨t_17, v_t_17, h_t_17⟩ : ∃ q v : Nat, ∀ (A : Nat → Prop) (U : State) (H : Heap), Z A U H → vk_R RX5 102 "weeks" q U ∧ Tx [119, 101, 101, 107, 115] q v A U H := ztx_8 zo
            obtain ⟨b_t_17, eb_t_17⟩ : ∃ b : List Int32, b = [119, 101, 101, 107, 115] := ⟨_, rfl⟩
            have nb_t_17 : Asc b_t_17 := by rw [eb_t_17]; exact ⟨by decide, by decide +kernel⟩
            have tx_t_17 : ∀ (A : Nat → Prop) (U : State) (H : Heap), Z A U H → Tx b_t_17 t_17 v_t_17 A U H := fun A U H h => by rw [eb_t_17]; exact (h_t_17 A U H h).2
            refine va_ldcS hx hb hown (h_t_17 _ _ _ hZ).1 dX5_readRule_78 ?_
            have ebw80 : b_t_17 = wWeeks := eb_t_17
            refine q_call_i hA hK hw (va_runV (As := [.ref t_17]) (rest := []) ⟨hx, hb, hml, hown, hts⟩ (c_X5_take_q zo l D cy L0 f_16 a0 t_17 m_a0 o_a0 b_t_17 v_t_17 nb_t_17 tx_t_17 hg Tt nn tp rt (tQn Tt nn 2 ee) rs (by omega) (by omega) _) (cwV 1 hts (gT (inV (mr7 _ (List.mem_of_getElem? (i := 21) rfl)) (mr7 _ (List.mem_of_getElem? (i := 22) rfl)) (mr7 _ (List.mem_of_getElem? (i := 23) rfl)) (mr5 _ (List.mem_of_getElem? (i := 18) rfl)) (mr8 _ (List.mem_of_getElem? (i := 0) rfl)))) rfl rfl rfl (by decide +kernel) ⟨Nat.le_of_ble_eq_true rfl, Nat.le_of_ble_eq_true rfl⟩) (Wd.preV zo hA hZ hw hK m_a0 o_a0 rfl) rfl rfl hl.1 rfl (lv_room (Nat.le_of_ble_eq_true rfl)) dX5_readRule_80 ⟨Nat.le_of_ble_eq_true rfl, Nat.le_of_ble_eq_true rfl⟩) (fun x_18 L1 f_19 H locs lx_18 ux_18 ex_18 hw => ?_)
            obtain ⟨rfl, hg, hX, ex_18⟩ := ex_18
            have hE := hE.trans hX
            have o_a0 := hX.1.1 _ _ o_a0
            have t80 := ex_18
            rw [ebw80] at t80
            refine q_if_eq (tgt := 96) hx hb dX5_readRule_83 (by decide) ⟨lx_18, ux_18⟩ (fun c83 => ?_) (fun c83 => ?_)
            · obtain ⟨_, w80, qz⟩ := t80.resolve_left (by omega)
              have rt : RT Tt nn f_19 a0 tp := by rw [qz]; exact rt
              have rs : RS Tt nn f_19 a0 (tQn Tt nn 2 ee) := by rw [qz]; exact rs
              have kx : K69 f_19 a0 Fq 0 (vN Tt nn (tQn Tt nn 1 ee)) 0 0 := by rw [qz]; exact kx
              have oa : OA f0 f_19 a0 := by rw [qz]; exact oa
              have rs1 := rs.1
              have rs2 := rs.2.1
              have rs3 := rs.2.2
              refine lv_aload_n hx hb dX5_readRule_96 rfl (lv_at hl 0 rfl) ?_
              obtain ⟨t_20, v_t_20, h_t_20⟩ : ∃ q v : Nat, ∀ (A : Nat → Prop) (U : State) (H : Heap), Z A U H → vk_R RX5 107 "months" q U ∧ Tx [109, 111, 110, 116, 104, 115] q v A U H := ztx_9 zo
              obtain ⟨b_t_20, eb_t_20⟩ : ∃ b : List Int32, b = [109, 111, 110, 116, 104, 115] := ⟨_, rfl⟩
              have nb_t_20 : Asc b_t_20 := by rw [eb_t_20]; exact ⟨by decide, by decide +kernel⟩
              have tx_t_20 : ∀ (A : Nat → Prop) (U : State) (H : Heap), Z A U H → Tx b_t_20 t_20 v_t_20 A U H := fun A U H h => by rw [eb_t_20]; exact (h_t_20 A U H h).2
              refine va_ldcS hx hb hown (h_t_20 _ _ _ hZ).1 dX5_readRule_97 ?_
              have ebw99 : b_t_20 = wMonths := eb_t_20
              refine q_call_i hA hK hw (va_runV (As := [.ref t_20]) (rest := []) ⟨hx, hb, hml, hown, hts⟩ (c_X5_require_q zo l D cy L0 f_19 a0 t_20 m_a0 o_a0 b_t_20 v_t_20 nb_t_20 tx_t_20 hg Tt nn tp rt (tQn Tt nn 2 ee) rs (by omega) (by omega) _) (cwV 1 hts (gT (inV (mr7 _ (List.mem_of_getElem? (i := 17) rfl)) (mr7 _ (List.mem_of_getElem? (i := 18) rfl)) (mr7 _ (List.mem_of_getElem? (i := 19) rfl)) (mr5 _ (List.mem_of_getElem? (i := 18) rfl)) (mr7 _ (List.mem_of_getElem? (i := 20) rfl)))) rfl rfl rfl (by decide +kernel) ⟨Nat.le_of_ble_eq_true rfl, Nat.le_of_ble_eq_true rfl⟩) (Wd.preV zo hA hZ hw hK m_a0 o_a0 rfl) rfl rfl hl.1 rfl (lv_room (Nat.le_of_ble_eq_true rfl)) dX5_readRule_99 ⟨Nat.le_of_ble_eq_true rfl, Nat.le_of_ble_eq_true rfl⟩) (fun x_21 L1 f_22 H locs lx_21 ux_21 ex_21 hw => ?_)
              obtain ⟨rfl, hg, hX, ex_21⟩ := ex_21
              have hE := hE.trans hX
              have o_a0 := hX.1.1 _ _ o_a0
              have t99 := ex_21
              rw [ebw99] at t99
              refine q_if_eq (tgt := 116) hx hb dX5_readRule_102 (by decide) ⟨lx_21, ux_21⟩ (fun c102 => ?_) (fun c102 => ?_)
              · obtain ⟨_, w99, qo, q5⟩ := t99.resolve_left (by omega)
                have oa := oa.trans qo
                refine q_iconst hx hb dX5_readRule_116 ?_
                exact q_ret_z hx hb hr hlocks hK hAe hw (by omega) (Nat.le_of_ble_eq_true rfl) (Nat.le_of_ble_eq_true rfl) dX5_readRule_117 (by first | (have z := ru_months w3 w14 w28 w47 w63 w80 w99; first | exact ⟨rfl, hg, hE, Or.inl ⟨by omega, z.1.trans w106, oa, kx.to z.2.1 z.2.2.1 z.2.2.2.1 z.2.2.2.2.1, rt, rs.to z.2.2.2.2.2⟩⟩ | (have y := z.1; exact ⟨rfl, hg, hE, Or.inr ⟨by omega, by omega, oa, by omega⟩⟩)) | (have z := ru_m0 w3 w14 w28 w47 w63 w80 w99; exact ⟨rfl, hg, hE, Or.inr ⟨by omega, by omega, oa, by omega⟩⟩))
              · obtain ⟨_, w99, qo, qk, rt, rs⟩ := t99.resolve_right (by omega)
                have oa := oa.trans qo
                have kx : K69 f_22 a0 Fq 0 (vN Tt nn (tQn Tt nn 1 ee)) 0 0 := kx.k5 qk
                have rs1 := rs.1
                have rs2 := rs.2.1
                have rs3 := rs.2.2
                refine lv_aload_n hx hb dX5_readRule_105 rfl (lv_at hl 0 rfl) ?_
                refine q_call_i hA hK hw (va_runV (As := []) (rest := []) ⟨hx, hb, hml, hown, hts⟩ (c_X5_readMonths_p zo l D cy L0 f_22 a0 m_a0 o_a0 hg Tt nn tp rt (tQn Tt nn 3 ee) rs (by omega) (by omega) Fq 0 (vN Tt nn (tQn Tt nn 1 ee)) kx _) (cwV 0 hts (gT (inV (mr11 _ (List.mem_of_getElem? (i := 2) rfl)) (mr11 _ (List.mem_of_getElem? (i := 3) rfl)) (mr11 _ (List.mem_of_getElem? (i := 4) rfl)) (mr5 _ (List.mem_of_getElem? (i := 18) rfl)) (mr11 _ (List.mem_of_getElem? (i := 5) rfl)))) rfl rfl rfl (by decide +kernel) ⟨Nat.le_of_ble_eq_true rfl, Nat.le_of_ble_eq_true rfl⟩) (Wd.preV zo hA hZ hw hK m_a0 o_a0 rfl) rfl rfl hl.1 rfl (lv_room (Nat.le_of_ble_eq_true rfl)) dX5_readRule_106 ⟨Nat.le_of_ble_eq_true rfl, Nat.le_of_ble_eq_true rfl⟩) (fun x_23 L1 f_24 H locs lx_23 ux_23 ex_23 hw => ?_)
                obtain ⟨rfl, hg, hX, ex_23⟩ := ex_23
                have hE := hE.trans hX
                have o_a0 := hX.1.1 _ _ o_a0
                have t106 := ex_23
                refine q_if_eq (tgt := 116) hx hb dX5_readRule_109 (by decide) ⟨lx_23, ux_23⟩ (fun c109 => ?_) (fun c109 => ?_)
                · obtain ⟨_, w106, qo, q5⟩ := t106.resolve_left (by omega)
                  have oa := oa.trans qo
                  refine q_iconst hx hb dX5_readRule_116 ?_
                  exact q_ret_z hx hb hr hlocks hK hAe hw (by omega) (Nat.le_of_ble_eq_true rfl) (Nat.le_of_ble_eq_true rfl) dX5_readRule_117 (by first | (have z := ru_months w3 w14 w28 w47 w63 w80 w99; first | exact ⟨rfl, hg, hE, Or.inl ⟨by omega, z.1.trans w106, oa, kx.to z.2.1 z.2.2.1 z.2.2.2.1 z.2.2.2.2.1, rt, rs.to z.2.2.2.2.2⟩⟩ | (have y := z.1; exact ⟨rfl, hg, hE, Or.inr ⟨by omega, by omega, oa, by omega⟩⟩)) | (have z := ru_m0 w3 w14 w28 w47 w63 w80 w99; exact ⟨rfl, hg, hE, Or.inr ⟨by omega, by omega, oa, by omega⟩⟩))
                · obtain ⟨_, w106, qo, kx, rt, rs⟩ := t106.resolve_right (by omega)
                  have oa := oa.trans qo
                  refine q_iconst hx hb dX5_readRule_112 ?_
                  refine lv_goto (tgt := 117) hx hb dX5_readRule_113 (by decide) ?_
                  exact q_ret_z hx hb hr hlocks hK hAe hw (by omega) (Nat.le_of_ble_eq_true rfl) (Nat.le_of_ble_eq_true rfl) dX5_readRule_117 (by first | (have z := ru_months w3 w14 w28 w47 w63 w80 w99; first | exact ⟨rfl, hg, hE, Or.inl ⟨by omega, z.1.trans w106, oa, kx.to z.2.1 z.2.2.1 z.2.2.2.1 z.2.2.2.2.1, rt, rs.to z.2.2.2.2.2⟩⟩ | (have y := z.1; exact ⟨rfl, hg, hE, Or.inr ⟨by omega, by omega, oa, by omega⟩⟩)) | (have z := ru_m0 w3 w14 w28 w47 w63 w80 w99; exact ⟨rfl, hg, hE, Or.inr ⟨by omega, by omega, oa, by omega⟩⟩))
            · obtain ⟨_, w80, qo, qk, rt, rs⟩ := t80.resolve_right (by omega)
              have oa := oa.trans qo
              have kx : K69 f_19 a0 Fq 0 (vN Tt nn (tQn Tt nn 1 ee)) 0 0 := kx.k5 qk
              have rs1 := rs.1
              have rs2 := rs.2.1
              have rs3 := rs.2.2
              refine lv_aload_n hx hb dX5_readRule_86 rfl (lv_at hl 0 rfl) ?_
              refine q_iconst hx hb dX5_readRule_87 ?_
              refine q_puti (ci := 4) (C := RX5) (T := TX5) (N := 10) hx hb hts (fun w h => List.mem_cons_of_mem _ (mfX50 w h)) hown hK hw m_a0 o_a0 rfl 6 (by decide) (hts _ (List.mem_cons_of_mem _ (mr6 _ (List.mem_of_getElem? (i := 7) rfl)))) (fun _ h => h) tyX5 tyX5_ok nmX5 rfl (ty := .int) (by decide +kernel) rfl rfl dX5_readRule_88 (fun H locs hw => ?_)
              have oo := o_a0
              obtain ⟨f_25, ef_25⟩ : ∃ g : Nat → va_E, g = pU f_19 a0 6 (.int (iI 2)) := ⟨_, rfl⟩
              have hX : Ex cy f_19 f_25 := by rw [ef_25]; exact Ex_pU oo rfl rfl (by decide)
              have hg : GI cy L0 f_25 := by rw [ef_25]; exact hg.putI oo rfl ⟨by decide, by decide⟩ trivial
              rw [← ef_25] at hw
              have hE := hE.trans hX
              have o_a0 := hX.1.1 _ _ o_a0
              have vf_25 : fI f_25 a0 6 = 2 := by rw [ef_25]; exact fI_pU_self oo rfl ⟨by decide, by decide⟩
              have oa := oa.put ef_25
              have rt := rt.put ef_25 (by decide)
              have rs := rs.put ef_25 (by decide)
              have kx := kx.p6 oo ⟨by omega, by omega⟩ ef_25 rfl
              have rs1 := rs.1
              have rs2 := rs.2.1
              have rs3 := rs.2.2
              refine lv_aload_n hx hb dX5_readRule_91 rfl (lv_at hl 0 rfl) ?_
              refine q_call_i hA hK hw (va_runV (As := []) (rest := []) ⟨hx, hb, hml, hown, hts⟩ (c_X5_readWeekdays_p zo l D cy L0 f_25 a0 m_a0 o_a0 hg Tt nn tp rt (tQn Tt nn 3 ee) rs (by omega) (by omega) Fq 2 (vN Tt nn (tQn Tt nn 1 ee)) 0 kx _) (cwV 0 hts (gT (inV (mr10 _ (List.mem_of_getElem? (i := 18) rfl)) (mr10 _ (List.mem_of_getElem? (i := 19) rfl)) (mr10 _ (List.mem_of_getElem? (i := 20) rfl)) (mr5 _ (List.mem_of_getElem? (i := 18) rfl)) (mr10 _ (List.mem_of_getElem? (i := 21) rfl)))) rfl rfl rfl (by decide +kernel) ⟨Nat.le_of_ble_eq_true rfl, Nat.le_of_ble_eq_true rfl⟩) (Wd.preV zo hA hZ hw hK m_a0 o_a0 rfl) rfl rfl hl.1 rfl (lv_room (Nat.le_of_ble_eq_true rfl)) dX5_readRule_92 ⟨Nat.le_of_ble_eq_true rfl, Nat.le_of_ble_eq_true rfl⟩) (fun x_26 L1 f_27 H locs lx_26 ux_26 ex_26 hw => ?_)
              obtain ⟨rfl, hg, hX, ex_26⟩ := ex_26
              have hE := hE.trans hX
              have o_a0 := hX.1.1 _ _ o_a0
              have t92 := ex_26
              exact q_ret_z hx hb hr hlocks hK hAe hw (by omega) (Nat.le_of_ble_eq_true rfl) (Nat.le_of_ble_eq_true rfl) dX5_readRule_95 (by (have z := ru_weeks w3 w14 w28 w47 w63 w80; rcases t92 with ⟨q1, q2, qo, kx, rt, rs, q3⟩ | ⟨q1, q2, qo, q5⟩; (exact ⟨rfl, hg, hE, Or.inl ⟨q1, z.1.trans q2, oa.trans qo, kx.to z.2.1 z.2.2.1 z.2.2.2.1 z.2.2.2.2.1, rt, rs.to z.2.2.2.2.2⟩⟩); (exact ⟨rfl, hg, hE, Or.inr ⟨q1, by rw [z.1]; exact q2, oa.trans qo, by rw [z.1]; exact q5⟩⟩)))
          · obtain ⟨_, w63, qo, qk, rt, rs⟩ := t63.resolve_right (by omega)
            have oa := oa.trans qo
            have kx : K69 f_16 a0 Fq 0 (vN Tt nn (tQn Tt nn 1 ee)) 0 0 := kx.k5 qk
            have rs1 := rs.1
            have rs2 := rs.2.1
            have rs3 := rs.2.2
            refine lv_aload_n hx hb dX5_readRule_69 rfl (lv_at hl 0 rfl) ?_
            refine q_bipush hx hb dX5_readRule_70 rfl ?_
            refine q_puti (ci := 4) (C := RX5) (T := TX5) (N := 10) hx hb hts (fun w h => List.mem_cons_of_mem _ (mfX50 w h)) hown hK hw m_a0 o_a0 rfl 6 (by decide) (hts _ (List.mem_cons_of_mem _ (mr6 _ (List.mem_of_getElem? (i := 7) rfl)))) (fun _ h => h) tyX5 tyX5_ok nmX5 rfl (ty := .int) (by decide +kernel) rfl rfl dX5_readRule_72 (fun H locs hw => ?_)
            have oo := o_a0
            obtain ⟨f_28, ef_28⟩ : ∃ g : Nat → va_E, g = pU f_16 a0 6 (.int (iI 7)) := ⟨_, rfl⟩
            have hX : Ex cy f_16 f_28 := by rw [ef_28]; exact Ex_pU oo rfl rfl (by decide)
            have hg : GI cy L0 f_28 := by rw [ef_28]; exact hg.putI oo rfl ⟨by decide, by decide⟩ trivial
            rw [← ef_28] at hw
            have hE := hE.trans hX
            have o_a0 := hX.1.1 _ _ o_a0
            have vf_28 : fI f_28 a0 6 = 7 := by rw [ef_28]; exact fI_pU_self oo rfl ⟨by decide, by decide⟩
            have oa := oa.put ef_28
            have rt := rt.put ef_28 (by decide)
            have rs := rs.put ef_28 (by decide)
            have kx := kx.p6 oo ⟨by omega, by omega⟩ ef_28 rfl
            have rs1 := rs.1
            have rs2 := rs.2.1
            have rs3 := rs.2.2
            refine q_iconst hx hb dX5_readRule_75 ?_
            exact q_ret_z hx hb hr hlocks hK hAe hw (by omega) (Nat.le_of_ble_eq_true rfl) (Nat.le_of_ble_eq_true rfl) dX5_readRule_76 (by (have z := ru_years w3 w14 w28 w47 w63; exact ⟨rfl, hg, hE, Or.inl ⟨by omega, z.1, oa, kx.to z.2.1 z.2.2.1 z.2.2.2.1 z.2.2.2.2.1, rt, rs.to z.2.2.2.2.2⟩⟩))
        · obtain ⟨_, w47, qo, qk, rt, rs⟩ := t47.resolve_right (by omega)
          have oa := oa.trans qo
          have kx : K69 f_13 a0 Fq 0 (vN Tt nn (tQn Tt nn 1 ee)) 0 0 := kx.k5 qk
          have rs1 := rs.1
          have rs2 := rs.2.1
          have rs3 := rs.2.2
          refine lv_aload_n hx hb dX5_readRule_53 rfl (lv_at hl 0 rfl) ?_
          refine q_iconst hx hb dX5_readRule_54 ?_
          refine q_puti (ci := 4) (C := RX5) (T := TX5) (N := 10) hx hb hts (fun w h => List.mem_cons_of_mem _ (mfX50 w h)) hown hK hw m_a0 o_a0 rfl 6 (by decide) (hts _ (List.mem_cons_of_mem _ (mr6 _ (List.mem_of_getElem? (i := 7) rfl)))) (fun _ h => h) tyX5 tyX5_ok nmX5 rfl (ty := .int) (by decide +kernel) rfl rfl dX5_readRule_55 (fun H locs hw => ?_)
          have oo := o_a0
          obtain ⟨f_29, ef_29⟩ : ∃ g : Nat → va_E, g = pU f_13 a0 6 (.int (iI 1)) := ⟨_, rfl⟩
          have hX : Ex cy f_13 f_29 := by rw [ef_29]; exact Ex_pU oo rfl rfl (by decide)
          have hg : GI cy L0 f_29 := by rw [ef_29]; exact hg.putI oo rfl ⟨by decide, by decide⟩ trivial
          rw [← ef_29] at hw
          have hE := hE.trans hX
          have o_a0 := hX.1.1 _ _ o_a0
          have vf_29 : fI f_29 a0 6 = 1 := by rw [ef_29]; exact fI_pU_self oo rfl ⟨by decide, by decide⟩
          have oa := oa.put ef_29
          have rt := rt.put ef_29 (by decide)
          have rs := rs.put ef_29 (by decide)
          have kx := kx.p6 oo ⟨by omega, by omega⟩ ef_29 rfl
          have rs1 := rs.1
          have rs2 := rs.2.1
          have rs3 := rs.2.2
          refine q_iconst hx hb dX5_readRule_58 ?_
          exact q_ret_z hx hb hr hlocks hK hAe hw (by omega) (Nat.le_of_ble_eq_true rfl) (Nat.le_of_ble_eq_true rfl) dX5_readRule_59 (by (have z := ru_days w3 w14 w28 w47; exact ⟨rfl, hg, hE, Or.inl ⟨by omega, z.1, oa, kx.to z.2.1 z.2.2.1 z.2.2.2.1 z.2.2.2.2.1, rt, rs.to z.2.2.2.2.2⟩⟩))
      · obtain ⟨w28, q2, qo, q5⟩ := t28.resolve_left (by omega)
        have oa := (oa.trans qo).put eg31
        have q5 : fI f_9 a0 5 = nS Tt nn (tQn Tt nn 1 ee) 1 999 := Eq.trans (by rw [eg31]; exact fI_pU (Or.inr (by decide))) q5
        refine q_iconst hx hb dX5_readRule_42 ?_
        exact q_ret_z hx hb hr hlocks hK hAe hw (by omega) (Nat.le_of_ble_eq_true rfl) (Nat.le_of_ble_eq_true rfl) dX5_readRule_43 (by (have z := ru_num w3 w14 w28; exact ⟨rfl, hg, hE, Or.inr ⟨by omega, by omega, oa, by omega⟩⟩))
    · obtain ⟨_, w14, qo, q5⟩ := t14.resolve_left (by omega)
      have oa := oa.trans qo
      refine q_iconst hx hb dX5_readRule_20 ?_
      exact q_ret_z hx hb hr hlocks hK hAe hw (by omega) (Nat.le_of_ble_eq_true rfl) (Nat.le_of_ble_eq_true rfl) dX5_readRule_21 (by (have z := ru_every w3 w14; exact ⟨rfl, hg, hE, Or.inr ⟨by omega, by omega, oa, by omega⟩⟩))
  · obtain ⟨_, w3, qo, qk, rt, rs⟩ := t3.resolve_right (by omega)
    have oa := oa.trans qo
    have kx : K69 f_3 a0 Fq 0 0 0 0 := kx.k5 qk
    have rs1 := rs.1
    have rs2 := rs.2.1
    have rs3 := rs.2.2
    refine q_iconst hx hb dX5_readRule_9 ?_
    exact q_ret_z hx hb hr hlocks hK hAe hw (by omega) (Nat.le_of_ble_eq_true rfl) (Nat.le_of_ble_eq_true rfl) dX5_readRule_10 (by (have z := ru_once w3; exact ⟨rfl, hg, hE, Or.inl ⟨by omega, z.1, oa, kx.to z.2.1 z.2.2.1 z.2.2.2.1 z.2.2.2.2.1, rt, rs.to z.2.2.2.2.2⟩⟩))
