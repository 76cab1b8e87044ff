/-! ===== a row in two; rows of images ===== -/
/-- as RO, but only the keys of P lie where they should -/
def RP (P : Int → Prop) (g : Int → Int) (p : Int) : Prop := RN g p ∧ (∀ k : Int, 0 ≤ k → k < g (p + 11) → (-1 ≤ g (p + 13 + 2 * k) ∧ g (p + 13 + 2 * k) ≤ 52595999) ∧ (P (g (p + 12 + 2 * k)) → g (p + 10) ≤ g (p + 12 + 2 * k) ∧ (g (p + 8) < 0 → g (p + 12 + 2 * k) ≤ 36524) ∧ (0 ≤ g (p + 8) → g (p + 12 + 2 * k) ≤ g (p + 8)))) ∧ (∀ i j : Int, 0 ≤ i → i < j → j < g (p + 11) → g (p + 12 + 2 * i) ≠ g (p + 12 + 2 * j))
theorem RP.done {P : Int → Prop} {g : Int → Int} {p : Int} (h : RP P g p) (hP : ∀ k : Int, 0 ≤ k → k < g (p + 11) → P (g (p + 12 + 2 * k))) : RO g p :=
  ⟨h.1, fun k h0 h1 => ⟨((h.2.1 k h0 h1).2 (hP k h0 h1)).1, ((h.2.1 k h0 h1).2 (hP k h0 h1)).2.1, ((h.2.1 k h0 h1).2 (hP k h0 h1)).2.2, (h.2.1 k h0 h1).1.1, (h.2.1 k h0 h1).1.2⟩, h.2.2⟩
theorem RP.forget {P : Int → Prop} {g g' : Int → Int} {p k : Int} (h : RP P g p) (h0 : 0 ≤ k) (h1 : k < g (p + 11)) (e0 : g' (p + 11) = g (p + 11) - 1) (e1 : ∀ x : Int, p + 12 + 2 * k ≤ x → x < p + 12 + 2 * (g (p + 11) - 1) → g' x = g (x + 2)) (e : ∀ x : Int, p ≤ x → x < p + 12 + 2 * k → x ≠ p + 11 → g' x = g x) : RP P g' p ∧ (∀ i : Int, 0 ≤ i → i < k → g' (p + 12 + 2 * i) = g (p + 12 + 2 * i)) ∧ (∀ i : Int, k ≤ i → i < g' (p + 11) → g' (p + 12 + 2 * i) = g (p + 12 + 2 * (i + 1))) := by
  obtain ⟨hn, ho1, ho2⟩ := h
  obtain ⟨n1, n2, n3, n4, n5, n6, n7, n8, n9, n10, n11, n12, n13, n14, n15⟩ := id hn
  have e8 := e (p + 8) (by omega) (by omega) (by omega)
  have e10 := e (p + 10) (by omega) (by omega) (by omega)
  have r : ∀ i : Int, 0 ≤ i → i < g (p + 11) - 1 → ∃ j : Int, 0 ≤ j ∧ j < g (p + 11) ∧ (i < k → j = i) ∧ (k ≤ i → j = i + 1) ∧ g' (p + 12 + 2 * i) = g (p + 12 + 2 * j) ∧ g' (p + 13 + 2 * i) = g (p + 13 + 2 * j) := by
    intro i i0 i1
    by_cases hi : i < k
    · exact ⟨i, i0, by omega, fun _ => rfl, by omega, e _ (by omega) (by omega) (by omega), e _ (by omega) (by omega) (by omega)⟩
    · refine ⟨i + 1, by omega, by omega, by omega, fun _ => rfl, ?_, ?_⟩
      · rw [e1 _ (by omega) (by omega), show p + 12 + 2 * i + 2 = p + 12 + 2 * (i + 1) by omega]
      · rw [e1 _ (by omega) (by omega), show p + 13 + 2 * i + 2 = p + 13 + 2 * (i + 1) by omega]
  refine ⟨⟨?_, ?_, ?_⟩, ?_, ?_⟩
  · unfold RN
    rw [e0, e8, e10, e (p + 3) (by omega) (by omega) (by omega), e (p + 4) (by omega) (by omega) (by omega), e (p + 5) (by omega) (by omega) (by omega), e (p + 1) (by omega) (by omega) (by omega), e (p + 2) (by omega) (by omega) (by omega)]
    exact ⟨n1, n2, n3, n4, n5, n6, n7, n8, n9, by omega, by omega, n12, n13, n14, n15⟩
  · intro i i0 i1
    rw [e0] at i1
    obtain ⟨j, j0, j1, -, -, j2, j3⟩ := r i i0 i1
    rw [e10, e8, j2, j3]
    exact ho1 j j0 j1
  · intro i i' i0 ii i1
    rw [e0] at i1
    obtain ⟨j, j0, j1, ja, jb, j2, -⟩ := r i i0 (by omega)
    obtain ⟨j', j0', j1', ja', jb', j2', -⟩ := r i' (by omega) i1
    rw [j2, j2']
    exact ho2 j j' j0 (by omega) j1'
  · intro i i0 i1
    exact e _ (by omega) (by omega) (by omega)
  · intro i i0 i1
    rw [e0] at i1
    rw [e1 _ (by omega) (by omega), show p + 12 + 2 * i + 2 = p + 12 + 2 * (i + 1) by omega]
/-- a row's head is changed: UNTIL to u, TIMES, FIRST to d -/
theorem RP.head {P : Int → Prop} {g g' : Int → Int} {p p' : Int} (h : RO g p) (u d : Int) (e8 : g' (p' + 8) = u) (e10 : g' (p' + 10) = d) (u0 : -1 ≤ u) (u1 : u ≤ 36524) (d0 : 0 ≤ d) (d1 : d ≤ 36524) (e : ∀ j : Int, 0 ≤ j → j ≤ 43 → j ≠ 8 → j ≠ 9 → j ≠ 10 → g' (p' + j) = g (p + j)) (hP : ∀ x : Int, P x → g (p + 10) ≤ x → (g (p + 8) < 0 → x ≤ 36524) → (0 ≤ g (p + 8) → x ≤ g (p + 8)) → d ≤ x ∧ (u < 0 → x ≤ 36524) ∧ (0 ≤ u → x ≤ u)) : RP P g' p' := by
  have E : ∀ a b : Int, a - p' = b - p → 0 ≤ a - p' → a - p' ≤ 43 → a - p' ≠ 8 → a - p' ≠ 9 → a - p' ≠ 10 → g' a = g b := by
    intro a b h1 h2 h3 h4 h5 h6
    have := e (a - p') h2 h3 h4 h5 h6
    rwa [show p' + (a - p') = a by omega, show p + (a - p') = b by omega] at this
  obtain ⟨hn, ho⟩ := h
  obtain ⟨n1, n2, n3, n4, n5, n6, n7, n8, n9, n10, n11, n12, n13, n14, n15⟩ := id hn
  have e11 := E (p' + 11) (p + 11) (by omega) (by omega) (by omega) (by omega) (by omega) (by omega)
  refine ⟨?_, ?_, ?_⟩
  · unfold RN
    rw [e11, e8, e10, E (p' + 3) (p + 3) (by omega) (by omega) (by omega) (by omega) (by omega) (by omega), E (p' + 4) (p + 4) (by omega) (by omega) (by omega) (by omega) (by omega) (by omega), E (p' + 5) (p + 5) (by omega) (by omega) (by omega) (by omega) (by omega) (by omega), E (p' + 1) (p + 1) (by omega) (by omega) (by omega) (by omega) (by omega) (by omega), E (p' + 2) (p + 2) (by omega) (by omega) (by omega) (by omega) (by omega) (by omega)]
    exact ⟨n1, n2, n3, n4, n5, u0, u1, d0, d1, n10, n11, n12, n13, n14, n15⟩
  · intro k h0 h1
    rw [e11] at h1
    rw [e10, e8, E (p' + 12 + 2 * k) (p + 12 + 2 * k) (by omega) (by omega) (by omega) (by omega) (by omega) (by omega), E (p' + 13 + 2 * k) (p + 13 + 2 * k) (by omega) (by omega) (by omega) (by omega) (by omega) (by omega)]
    have q := ho.1 k h0 h1
    exact ⟨q.2.2.2, fun z => hP _ z q.1 q.2.1 q.2.2.1⟩
  · intro i j h0 h1 h2
    rw [e11] at h2
    rw [E (p' + 12 + 2 * i) (p + 12 + 2 * i) (by omega) (by omega) (by omega) (by omega) (by omega) (by omega), E (p' + 12 + 2 * j) (p + 12 + 2 * j) (by omega) (by omega) (by omega) (by omega) (by omega) (by omega)]
    exact ho.2 i j h0 h1 h2
theorem RP.same {P : Int → Prop} {g g' : Int → Int} {p : Int} (h : RP P g p) (e : ∀ x : Int, p ≤ x → x ≤ p + 43 → g' x = g x) : RP P g' p := by
  obtain ⟨hn, ho1, ho2⟩ := h
  obtain ⟨n1, n2, n3, n4, n5, n6, n7, n8, n9, n10, n11, n12, n13, n14, n15⟩ := id hn
  have e11 := e (p + 11) (by omega) (by omega)
  have e8 := e (p + 8) (by omega) (by omega)
  have e10 := e (p + 10) (by omega) (by omega)
  refine ⟨?_, ?_, ?_⟩
  · unfold RN
    rw [e11, e8, e10, e (p + 3) (by omega) (by omega), e (p + 4) (by omega) (by omega), e (p + 5) (by omega) (by omega), e (p + 1) (by omega) (by omega), e (p + 2) (by omega) (by omega)]
    exact hn
  · intro k h0 h1
    rw [e11] at h1
    rw [e10, e8, e (p + 12 + 2 * k) (by omega) (by omega), e (p + 13 + 2 * k) (by omega) (by omega)]
    exact ho1 k h0 h1
  · intro i j h0 h1 h2
    rw [e11] at h2
    rw [e (p + 12 + 2 * i) (by omega) (by omega), e (p + 12 + 2 * j) (by omega) (by omega)]
    exact ho2 i j h0 h1 h2
theorem RP.len {P : Int → Prop} {g : Int → Int} {p : Int} (h : RP P g p) : 0 ≤ g (p + 11) ∧ g (p + 11) ≤ 16 := ⟨h.1.2.2.2.2.2.2.2.2.2.1, h.1.2.2.2.2.2.2.2.2.2.2.1⟩
theorem MV.two {f g : Nat → va_E} {a : Nat} {ad : Nat → Nat} {c : Int} (h : MV f a ad) (h5 : fI g a 5 = fI f a 5 + 1) (h6 : fI f a 5 ≤ 11) (e : ∀ x : Int, 0 ≤ x → (x < 44 * fI f a 5 ∧ (x < 44 * c ∨ 44 * c + 43 < x)) → aI g (ad 4) x = aI f (ad 4) x) (r1 : RO (aI g (ad 4)) (44 * c)) (r2 : RO (aI g (ad 4)) (44 * fI f a 5)) : MV g a ad := by
  have := h.1
  refine ⟨by omega, by omega, fun b h0 h1 => ?_⟩
  by_cases hb : b = fI f a 5
  · rw [hb]; exact r2
  · by_cases hc : b = c
    · rw [hc]; exact r1
    · exact (h.at h0 (by omega)).move (fun j j0 j1 => e _ (by omega) (by omega))
/-- what the images keep to -/
def MI (f : Nat → va_E) (_ : Nat) (ad : Nat → Nat) : Prop := ∀ i : Int, 0 ≤ i → i ≤ 1 → aI f (ad 7) i < 0 ∨ (0 ≤ aI f (ad 7) i ∧ aI f (ad 7) i ≤ 12 ∧ ∀ b : Int, 0 ≤ b → b < aI f (ad 7) i → RO (aI f (ad 6)) (528 * i + 44 * b))
theorem MI.kp {f g : Nat → va_E} {a : Nat} {ad : Nat → Nat} {rs fs : List Nat} (h : MI f a ad) (k : Kp a ad rs fs f g) (h1 : 6 ∉ rs) (h2 : 7 ∉ rs) : MI g a ad := by
  have e6 : aI g (ad 6) = aI f (ad 6) := funext fun x => k.1 6 rfl h1 x
  have e7 : aI g (ad 7) = aI f (ad 7) := funext fun x => k.1 7 rfl h2 x
  unfold MI
  rw [e6, e7]
  exact h
theorem MI.put {f g : Nat → va_E} {a : Nat} {ad : Nat → Nat} {c n : Int} (h : MI f a ad) (hv : MV f a ad) (c0 : 0 ≤ c) (c1 : c ≤ 1) (hn : n = fI f a 5) (e7 : aI g (ad 7) c = n) (e7' : ∀ x : Int, 0 ≤ x → x ≠ c → aI g (ad 7) x = aI f (ad 7) x) (e6 : ∀ j : Int, 0 ≤ j → j < 528 → aI g (ad 6) (528 * c + j) = aI f (ad 4) j) (e6' : ∀ x : Int, 0 ≤ x → (x < 528 * c ∨ 528 * c + 528 ≤ x) → aI g (ad 6) x = aI f (ad 6) x) : MI g a ad := by
  subst hn
  have a1 := hv.1
  have a2 := hv.2.1
  intro i i0 i1
  by_cases ei : i = c
  · subst ei
    rw [e7]
    refine Or.inr ⟨a1, a2, fun b b0 b1 => (hv.at b0 b1).move (fun j j0 j1 => ?_)⟩
    rw [show 528 * i + 44 * b + j = 528 * i + (44 * b + j) by omega]
    exact e6 _ (by omega) (by omega)
  · rw [e7' i i0 ei]
    rcases h i i0 i1 with q | ⟨q0, q1, q2⟩
    · exact Or.inl q
    · exact Or.inr ⟨q0, q1, fun b b0 b1 => (q2 b b0 b1).move (fun j j0 j1 => e6' _ (by omega) (by omega))⟩
theorem MI.get {f g : Nat → va_E} {a : Nat} {ad : Nat → Nat} {c : Int} (h : MI f a ad) (c0 : 0 ≤ c) (c1 : c ≤ 1) (h0 : 0 ≤ aI f (ad 7) c) (e5 : fI g a 5 = aI f (ad 7) c) (e4 : ∀ j : Int, 0 ≤ j → j < 528 → aI g (ad 4) j = aI f (ad 6) (528 * c + j)) : MV g a ad := by
  rcases h c c0 c1 with q | ⟨q0, q1, q2⟩
  · omega
  · refine ⟨by omega, by omega, fun b b0 b1 => (q2 b b0 (by omega)).move (fun j j0 j1 => ?_)⟩
    rw [e4 _ (by omega) (by omega), show 528 * c + (44 * b + j) = 528 * c + 44 * b + j by omega]
