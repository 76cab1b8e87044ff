/-! ===== rows of bookings, moved and changed ===== -/
def RO (g : Int → Int) (p : Int) : Prop := RN g p ∧ OD g p
theorem RO.move {g g' : Int → Int} {p p' : Int} (h : RO g p) (e : ∀ j : Int, 0 ≤ j → j ≤ 43 → g' (p' + j) = g (p + j)) : RO g' p' := by
  have E : ∀ a b : Int, a - p' = b - p → 0 ≤ a - p' → a - p' ≤ 43 → g' a = g b := by
    intro a b h1 h2 h3
    have := e (a - p') h2 h3
    rwa [show p' + (a - p') = a by omega, show p + (a - p') = b by omega] at this
  obtain ⟨hn, ho⟩ := h
  have e11 := E (p' + 11) (p + 11) (by omega) (by omega) (by omega)
  have e8 := E (p' + 8) (p + 8) (by omega) (by omega) (by omega)
  have e10 := E (p' + 10) (p + 10) (by omega) (by omega) (by omega)
  have hn' := hn
  obtain ⟨n1, n2, n3, n4, n5, n6, n7, n8, n9, n10, n11, n12, n13, n14, n15⟩ := hn'
  refine ⟨?_, ?_, ?_⟩
  · unfold RN
    rw [e11, e8, e10, E (p' + 3) (p + 3) (by omega) (by omega) (by omega), E (p' + 4) (p + 4) (by omega) (by omega) (by omega), E (p' + 5) (p + 5) (by omega) (by omega) (by omega), E (p' + 1) (p + 1) (by omega) (by omega) (by omega), E (p' + 2) (p + 2) (by omega) (by omega) (by omega)]
    exact hn
  · intro k h0 h1
    rw [e11] at h1
    rw [e10, e8, E (p' + 12 + 2 * k) (p + 12 + 2 * k) (by omega) (by omega) (by omega), E (p' + 13 + 2 * k) (p + 13 + 2 * k) (by omega) (by omega) (by omega)]
    exact ho.1 k h0 h1
  · intro i j h0 h1 h2
    rw [e11] at h2
    rw [E (p' + 12 + 2 * i) (p + 12 + 2 * i) (by omega) (by omega) (by omega), E (p' + 12 + 2 * j) (p + 12 + 2 * j) (by omega) (by omega) (by omega)]
    exact ho.2 i j h0 h1 h2
theorem MV.at {f : Nat → va_E} {a : Nat} {ad : Nat → Nat} (h : MV f a ad) {b : Int} (h0 : 0 ≤ b) (h1 : b < fI f a 5) : RO (aI f (ad 4)) (44 * b) := h.2.2 b h0 h1
/-- rows below many stay -/
theorem MV.same {f g : Nat → va_E} {a : Nat} {ad : Nat → Nat} (h : MV f a ad) (h5 : fI g a 5 = fI f a 5) (e : ∀ x : Int, 0 ≤ x → x < 44 * fI f a 5 → aI g (ad 4) x = aI f (ad 4) x) : MV g a ad := by
  refine ⟨by rw [h5]; exact h.1, by rw [h5]; exact h.2.1, fun b h0 h1 => ?_⟩
  rw [h5] at h1
  exact (h.at h0 h1).move (fun j j0 j1 => e _ (by omega) (by omega))
theorem MV.grow {f g : Nat → va_E} {a : Nat} {ad : Nat → Nat} (h : MV f a ad) (h5 : fI g a 5 = fI f a 5 + 1) (h6 : fI f a 5 ≤ 11) (e : ∀ x : Int, 0 ≤ x → x < 44 * fI f a 5 → aI g (ad 4) x = aI f (ad 4) x) (hr : RO (aI g (ad 4)) (44 * fI f a 5)) : MV g a ad := by
  have := h.1
  refine ⟨by omega, by omega, fun b h0 h1 => ?_⟩
  by_cases hb : b = fI f a 5
  · rw [hb]; exact hr
  · exact (h.at h0 (by omega)).move (fun j j0 j1 => e _ (by omega) (by omega))
theorem MV.less {f g : Nat → va_E} {a : Nat} {ad : Nat → Nat} {c : Int} (h : MV f a ad) (h5 : fI g a 5 = fI f a 5 - 1) (c0 : 0 ≤ c) (c1 : c < fI f a 5) (e1 : ∀ x : Int, 0 ≤ x → x < 44 * c → aI g (ad 4) x = aI f (ad 4) x) (e2 : ∀ x : Int, 44 * c ≤ x → x < 44 * (fI f a 5 - 1) → aI g (ad 4) x = aI f (ad 4) (x + 44)) : MV g a ad := by
  have := h.2.1
  refine ⟨by omega, by omega, fun b h0 h1 => ?_⟩
  by_cases hb : b < c
  · exact (h.at h0 (by omega)).move (fun j j0 j1 => e1 _ (by omega) (by omega))
  · refine (h.at (b := b + 1) (by omega) (by omega)).move (fun j j0 j1 => ?_)
    rw [e2 _ (by omega) (by omega), show 44 * b + j + 44 = 44 * (b + 1) + j by omega]
/-- one row changes -/
theorem MV.one {f g : Nat → va_E} {a : Nat} {ad : Nat → Nat} {c : Int} (h : MV f a ad) (h5 : fI g a 5 = fI f a 5) (e : ∀ x : Int, 0 ≤ x → (x < 44 * c ∨ 44 * c + 43 < x) → aI g (ad 4) x = aI f (ad 4) x) (hr : RO (aI g (ad 4)) (44 * c)) : MV g a ad := by
  refine ⟨by rw [h5]; exact h.1, by rw [h5]; exact h.2.1, fun b h0 h1 => ?_⟩
  rw [h5] at h1
  by_cases hb : b = c
  · rw [hb]; exact hr
  · exact (h.at h0 h1).move (fun j j0 j1 => e _ (by omega) (by omega))
def UN (g : Int → Int) (p : Int) : Int := if g (p + 8) < 0 then 36524 else g (p + 8)
theorem RO.setOdd {g g' : Int → Int} {p k key t : Int} (h : RO g p) (h0 : 0 ≤ k) (h1 : k < g (p + 11)) (hk : g (p + 12 + 2 * k) = key) (t0 : -1 ≤ t) (t1 : t ≤ 52595999) (e1 : g' (p + 12 + 2 * k) = key) (e2 : g' (p + 13 + 2 * k) = t) (e : ∀ x : Int, p ≤ x → x ≤ p + 43 → x ≠ p + 12 + 2 * k → x ≠ p + 13 + 2 * k → g' x = g x) : RO g' p := by
  obtain ⟨hn, ho⟩ := h
  obtain ⟨n1, n2, n3, n4, n5, n6, n7, n8, n9, n10, n11, n12, n13, n14, n15⟩ := id hn
  have e11 := e (p + 11) (by omega) (by omega) (by omega) (by omega)
  have e8 := e (p + 8) (by omega) (by omega) (by omega) (by omega)
  have e10 := e (p + 10) (by omega) (by omega) (by omega) (by omega)
  refine ⟨?_, ?_, ?_⟩
  · unfold RN
    rw [e11, e8, e10, e (p + 3) (by omega) (by omega) (by omega) (by omega), e (p + 4) (by omega) (by omega) (by omega) (by omega), e (p + 5) (by omega) (by omega) (by omega) (by omega), e (p + 1) (by omega) (by omega) (by omega) (by omega), e (p + 2) (by omega) (by omega) (by omega) (by omega)]
    exact hn
  · intro i i0 i1
    rw [e11] at i1
    have q := ho.1 i i0 i1
    rw [e10, e8]
    by_cases ei : i = k
    · subst ei
      rw [e1, e2]
      rw [hk] at q
      exact ⟨q.1, q.2.1, q.2.2.1, t0, t1⟩
    · rw [e (p + 12 + 2 * i) (by omega) (by omega) (by omega) (by omega), e (p + 13 + 2 * i) (by omega) (by omega) (by omega) (by omega)]
      exact q
  · intro i j i0 ij j1
    rw [e11] at j1
    have q := ho.2 i j i0 ij j1
    have r : ∀ x : Int, 0 ≤ x → x < g (p + 11) → g' (p + 12 + 2 * x) = g (p + 12 + 2 * x) := by
      intro x x0 x1
      by_cases ex : x = k
      · subst ex; rw [e1, hk]
      · exact e _ (by omega) (by omega) (by omega) (by omega)
    rw [r i i0 (by omega), r j (by omega) j1]
    exact q
theorem RO.addOdd {g g' : Int → Int} {p key t : Int} (h : RO g p) (h1 : g (p + 11) ≤ 15) (hk : ∀ i : Int, 0 ≤ i → i < g (p + 11) → g (p + 12 + 2 * i) ≠ key) (k0 : g (p + 10) ≤ key) (k1 : key ≤ UN g p) (t0 : -1 ≤ t) (t1 : t ≤ 52595999) (e0 : g' (p + 11) = g (p + 11) + 1) (e1 : g' (p + 12 + 2 * g (p + 11)) = key) (e2 : g' (p + 13 + 2 * g (p + 11)) = t) (e : ∀ x : Int, p ≤ x → x ≤ p + 43 → x ≠ p + 11 → x ≠ p + 12 + 2 * g (p + 11) → x ≠ p + 13 + 2 * g (p + 11) → g' x = g x) : RO g' p := by
  obtain ⟨hn, ho⟩ := h
  obtain ⟨n1, n2, n3, n4, n5, n6, n7, n8, n9, n10, n11, n12, n13, n14, n15⟩ := id hn
  have e8 := e (p + 8) (by omega) (by omega) (by omega) (by omega) (by omega)
  have e10 := e (p + 10) (by omega) (by omega) (by omega) (by omega) (by omega)
  have hu : (g (p + 8) < 0 → key ≤ 36524) ∧ (0 ≤ g (p + 8) → key ≤ g (p + 8)) := by
    unfold UN at k1
    split at k1 <;> omega
  refine ⟨?_, ?_, ?_⟩
  · unfold RN
    rw [e0, e8, e10, e (p + 3) (by omega) (by omega) (by omega) (by omega) (by omega), e (p + 4) (by omega) (by omega) (by omega) (by omega) (by omega), e (p + 5) (by omega) (by omega) (by omega) (by omega) (by omega), e (p + 1) (by omega) (by omega) (by omega) (by omega) (by omega), e (p + 2) (by omega) (by omega) (by omega) (by omega) (by omega)]
    exact ⟨n1, n2, n3, n4, n5, n6, n7, n8, n9, by omega, by omega, n12, n13, n14, n15⟩
  · intro i i0 i1
    rw [e10, e8]
    by_cases ei : i = g (p + 11)
    · rw [ei, e1, e2]
      exact ⟨k0, hu.1, hu.2, t0, t1⟩
    · rw [e (p + 12 + 2 * i) (by omega) (by omega) (by omega) (by omega) (by omega), e (p + 13 + 2 * i) (by omega) (by omega) (by omega) (by omega) (by omega)]
      exact ho.1 i i0 (by omega)
  · intro i j i0 ij j1
    rw [e (p + 12 + 2 * i) (by omega) (by omega) (by omega) (by omega) (by omega)]
    by_cases ej : j = g (p + 11)
    · rw [ej, e1]
      exact hk i i0 (by omega)
    · rw [e (p + 12 + 2 * j) (by omega) (by omega) (by omega) (by omega) (by omega)]
      exact ho.2 i j i0 ij (by omega)
theorem RO.forget {g g' : Int → Int} {p k : Int} (h : RO g p) (h0 : 0 ≤ k) (h1 : k < g (p + 11)) (e0 : g' (p + 11) = g (p + 11) - 1) (e1 : ∀ x : Int, p + 12 + 2 * k ≤ x → x < p + 12 + 2 * (g (p + 11) - 1) → g' x = g (x + 2)) (e : ∀ x : Int, p ≤ x → x < p + 12 + 2 * k → x ≠ p + 11 → g' x = g x) : RO g' p := by
  obtain ⟨hn, ho⟩ := h
  obtain ⟨n1, n2, n3, n4, n5, n6, n7, n8, n9, n10, n11, n12, n13, n14, n15⟩ := id hn
  have e8 := e (p + 8) (by omega) (by omega) (by omega)
  have e10 := e (p + 10) (by omega) (by omega) (by omega)
  have r : ∀ i : Int, 0 ≤ i → i < g (p + 11) - 1 → ∃ j : Int, 0 ≤ j ∧ j < g (p + 11) ∧ (i < k → j = i) ∧ (k ≤ i → j = i + 1) ∧ g' (p + 12 + 2 * i) = g (p + 12 + 2 * j) ∧ g' (p + 13 + 2 * i) = g (p + 13 + 2 * j) := by
    intro i i0 i1
    by_cases hi : i < k
    · exact ⟨i, i0, by omega, fun _ => rfl, by omega, e _ (by omega) (by omega) (by omega), e _ (by omega) (by omega) (by omega)⟩
    · refine ⟨i + 1, by omega, by omega, by omega, fun _ => rfl, ?_, ?_⟩
      · rw [e1 _ (by omega) (by omega), show p + 12 + 2 * i + 2 = p + 12 + 2 * (i + 1) by omega]
      · rw [e1 _ (by omega) (by omega), show p + 13 + 2 * i + 2 = p + 13 + 2 * (i + 1) by omega]
  refine ⟨?_, ?_, ?_⟩
  · unfold RN
    rw [e0, e8, e10, e (p + 3) (by omega) (by omega) (by omega), e (p + 4) (by omega) (by omega) (by omega), e (p + 5) (by omega) (by omega) (by omega), e (p + 1) (by omega) (by omega) (by omega), e (p + 2) (by omega) (by omega) (by omega)]
    exact ⟨n1, n2, n3, n4, n5, n6, n7, n8, n9, by omega, by omega, n12, n13, n14, n15⟩
  · intro i i0 i1
    rw [e0] at i1
    obtain ⟨j, j0, j1, -, -, j2, j3⟩ := r i i0 i1
    rw [e10, e8, j2, j3]
    exact ho.1 j j0 j1
  · intro i i' i0 ii i1
    rw [e0] at i1
    obtain ⟨j, j0, j1, ja, jb, j2, -⟩ := r i i0 (by omega)
    obtain ⟨j', j0', j1', ja', jb', j2', -⟩ := r i' (by omega) i1
    rw [j2, j2']
    exact ho.2 j j' j0 (by omega) j1'
theorem RO.of {g r : Int → Int} {p : Int} (cp : ∀ j : Int, 0 ≤ j → j < 44 → g (p + j) = r j) (z1 : 0 ≤ r 1) (z2 : r 1 ≤ 1439) (z3 : 1 ≤ r 2) (z4 : r 2 ≤ 4320) (z5 : r 3 = 0 ∨ 1 ≤ r 4) (z6 : 0 ≤ r 4) (z7 : r 4 ≤ 999) (z8 : 0 ≤ r 5) (z9 : r 5 ≤ 36524) (za : -1 ≤ r 8) (zb : r 8 ≤ 36524) (zc : 0 ≤ r 10) (zd : r 10 ≤ 36524) (ze : r 11 = 0) : RO g p := by
  have e11 := cp 11 (by omega) (by omega)
  refine ⟨?_, ?_, ?_⟩
  · unfold RN
    rw [e11, cp 8 (by omega) (by omega), cp 10 (by omega) (by omega), cp 3 (by omega) (by omega), cp 4 (by omega) (by omega), cp 5 (by omega) (by omega), cp 1 (by omega) (by omega), cp 2 (by omega) (by omega)]
    exact ⟨z5, z6, z7, z8, z9, za, zb, zc, zd, by omega, by omega, z1, z2, z3, z4⟩
  · intro k k0 k1
    rw [e11, ze] at k1
    omega
  · intro i j i0 ij j1
    rw [e11, ze] at j1
    omega
