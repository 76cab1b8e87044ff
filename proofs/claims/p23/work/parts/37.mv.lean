/-! ===== what a row of the reference's bookings keeps to ===== -/
def OD (g : Int → Int) (p : Int) : Prop := (∀ k : Int, 0 ≤ k → k < g (p + 11) → g (p + 10) ≤ g (p + 12 + 2 * k) ∧ (g (p + 8) < 0 → g (p + 12 + 2 * k) ≤ 36524) ∧ (0 ≤ g (p + 8) → g (p + 12 + 2 * k) ≤ g (p + 8)) ∧ -1 ≤ g (p + 13 + 2 * k) ∧ g (p + 13 + 2 * k) ≤ 52595999) ∧ (∀ i j : Int, 0 ≤ i → i < j → j < g (p + 11) → g (p + 12 + 2 * i) ≠ g (p + 12 + 2 * j))
def RN (g : Int → Int) (p : Int) : Prop := (g (p + 3) = 0 ∨ 1 ≤ g (p + 4)) ∧ 0 ≤ g (p + 4) ∧ g (p + 4) ≤ 999 ∧ 0 ≤ g (p + 5) ∧ g (p + 5) ≤ 36524 ∧ -1 ≤ g (p + 8) ∧ g (p + 8) ≤ 36524 ∧ 0 ≤ g (p + 10) ∧ g (p + 10) ≤ 36524 ∧ 0 ≤ g (p + 11) ∧ g (p + 11) ≤ 16 ∧ 0 ≤ g (p + 1) ∧ g (p + 1) ≤ 1439 ∧ 1 ≤ g (p + 2) ∧ g (p + 2) ≤ 4320
def MV (f : Nat → va_E) (a : Nat) (ad : Nat → Nat) : Prop := 0 ≤ fI f a 5 ∧ fI f a 5 ≤ 12 ∧ ∀ b : Int, 0 ≤ b → b < fI f a 5 → RN (aI f (ad 4)) (44 * b) ∧ OD (aI f (ad 4)) (44 * b)
theorem MV.kp {f g : Nat → va_E} {a : Nat} {ad : Nat → Nat} {rs fs : List Nat} (h : MV f a ad) (k : Kp a ad rs fs f g) (h1 : 4 ∉ rs) (h2 : 5 ∉ fs) : MV g a ad := by
  have e5 : fI g a 5 = fI f a 5 := k.2 5 h2
  have e4 : aI g (ad 4) = aI f (ad 4) := funext fun x => k.1 4 rfl h1 x
  unfold MV
  rw [e5, e4]
  exact h
theorem MV.row {f : Nat → va_E} {a : Nat} {ad : Nat → Nat} (h : MV f a ad) (b : Int) (h0 : 0 ≤ b) (h1 : b < fI f a 5) : b ≤ 11 ∧ (aI f (ad 4) (44 * b + 3) = 0 ∨ 1 ≤ aI f (ad 4) (44 * b + 4)) ∧ 0 ≤ aI f (ad 4) (44 * b + 4) ∧ aI f (ad 4) (44 * b + 4) ≤ 999 ∧ 0 ≤ aI f (ad 4) (44 * b + 5) ∧ aI f (ad 4) (44 * b + 5) ≤ 36524 ∧ -1 ≤ aI f (ad 4) (44 * b + 8) ∧ aI f (ad 4) (44 * b + 8) ≤ 36524 ∧ 0 ≤ aI f (ad 4) (44 * b + 10) ∧ aI f (ad 4) (44 * b + 10) ≤ 36524 ∧ 0 ≤ aI f (ad 4) (44 * b + 11) ∧ aI f (ad 4) (44 * b + 11) ≤ 16 ∧ 0 ≤ aI f (ad 4) (44 * b + 1) ∧ aI f (ad 4) (44 * b + 1) ≤ 1439 ∧ 1 ≤ aI f (ad 4) (44 * b + 2) ∧ aI f (ad 4) (44 * b + 2) ≤ 4320 := by
  have h2 := h.2.1
  exact ⟨by omega, (h.2.2 b h0 h1).1⟩
