/-! ===== the calendars of both sides ===== -/
def cyS (n : Int) : Int := n / 48 * 1461 + cyc.getD (n % 48).toNat 0
theorem cyc_tab : ∀ b : Nat, b < 4 → ∀ m : Nat, m < 12 → cyc.getD (12 * b + m) 0 = mst (2000 + (b : Int)) ((m : Int) + 1) := by decide +kernel
theorem cyc_31 : ∀ k : Nat, k < 48 → cyc.getD k 0 ≤ 31 * (k : Int) := by decide +kernel
theorem mst_shift (a b m : Int) : mst (2000 + 4 * a + b) m = 1461 * a + mst (2000 + b) m := by
  unfold mst
  have h : (2000 + 4 * a + b) % 4 = (2000 + b) % 4 := by omega
  rw [h]
  generalize (if 3 ≤ m ∧ (2000 + b) % 4 = 0 then (1 : Int) else 0) = t
  omega
theorem cyS_mst {y m : Int} (h1 : 2000 ≤ y) (h3 : 1 ≤ m) (h4 : m ≤ 12) : cyS ((y - 2000) * 12 + m - 1) = mst y m := by
  obtain ⟨a, b, ha, hb0, hb1⟩ : ∃ a b : Int, y = 2000 + 4 * a + b ∧ 0 ≤ b ∧ b ≤ 3 := ⟨(y - 2000) / 4, (y - 2000) % 4, by omega, by omega, by omega⟩
  have e1 : ((y - 2000) * 12 + m - 1) / 48 = a := by omega
  have e2 : ((y - 2000) * 12 + m - 1) % 48 = 12 * b + (m - 1) := by omega
  unfold cyS
  rw [e1, e2, ha, mst_shift]
  have t := cyc_tab b.toNat (by omega) (m - 1).toNat (by omega)
  rw [show ((b.toNat : Nat) : Int) = b by omega, show (((m - 1).toNat : Nat) : Int) + 1 = m by omega] at t
  rw [show (12 * b + (m - 1)).toNat = 12 * b.toNat + (m - 1).toNat by omega, t]
  omega
theorem cyS_nx {y m : Int} (h1 : 2000 ≤ y) (h3 : 1 ≤ m) (h4 : m ≤ 12) : cyS ((y - 2000) * 12 + m) = mst y m + dI y m := by
  by_cases hm : m ≤ 11
  · rw [← mst_next h3 hm, ← cyS_mst h1 (m := m + 1) (by omega) (by omega)]
    congr 1
    omega
  · obtain rfl : m = 12 := by omega
    rw [← mst_year, ← cyS_mst (y := y + 1) (m := 1) (by omega) (by omega) (by omega)]
    congr 1
    omega
theorem mst_b {y m : Int} (h1 : 2000 ≤ y) (h2 : y ≤ 2099) (h3 : 1 ≤ m) (h4 : m ≤ 12) : 0 ≤ mst y m ∧ mst y m + dI y m ≤ 36525 := by
  have p := mst_rg h1 h2 h3 h4 (k := 1) (by omega) (by have := dI_b y m; omega)
  have q := mst_rg h1 h2 h3 h4 (k := dI y m) (by have := dI_b y m; omega) (Int.le_refl _)
  have := dI_b y m
  omega
/-- a day and its date -/
def DV (y m j d : Int) : Prop := 2000 ≤ y ∧ y ≤ 2099 ∧ 1 ≤ m ∧ m ≤ 12 ∧ 1 ≤ j ∧ j ≤ dI y m ∧ d = mst y m + j - 1
theorem DV.inj {y m j y' m' j' d : Int} (h : DV y m j d) (g : DV y' m' j' d) : y = y' ∧ m = m' ∧ j = j' := by
  obtain ⟨h1, h2, h3, h4, h5, h6, h7⟩ := h
  obtain ⟨g1, g2, g3, g4, g5, g6, g7⟩ := g
  exact mst_inj h3 h4 h5 h6 g3 g4 g5 g6 (by omega)
theorem DV.all (n : Nat) : (n : Int) < 36525 → ∃ y m j : Int, DV y m j n := by
  induction n with
  | zero => intro _; exact ⟨2000, 1, 1, by unfold DV; decide⟩
  | succ n ih =>
    intro h
    obtain ⟨y, m, j, h1, h2, h3, h4, h5, h6, h7⟩ := ih (by omega)
    have b := dI_b y m
    by_cases c1 : j < dI y m
    · exact ⟨y, m, j + 1, h1, h2, h3, h4, by omega, by omega, by omega⟩
    · by_cases c2 : m ≤ 11
      · have e := mst_next (y := y) h3 c2
        have b2 := dI_b y (m + 1)
        exact ⟨y, m + 1, 1, h1, h2, by omega, by omega, by omega, by omega, by omega⟩
      · obtain rfl : m = 12 := by omega
        have e := mst_year y
        have b2 := dI_b (y + 1) 1
        have hy : y + 1 ≤ 2099 := by
          by_cases c3 : y = 2099
          · subst c3
            have := mst_end
            have e' : mst (2099 + 1) 1 = mst 2100 1 := rfl
            omega
          · omega
        exact ⟨y + 1, 1, 1, by omega, hy, by omega, by omega, by omega, by omega, by omega⟩
theorem DV.of {d : Int} (h0 : 0 ≤ d) (h1 : d < 36525) : ∃ y m j : Int, DV y m j d := by
  obtain ⟨y, m, j, h⟩ := DV.all d.toNat (by omega)
  rw [show ((d.toNat : Nat) : Int) = d by omega] at h
  exact ⟨y, m, j, h⟩
/-- what the reference's rows say of a day -/
theorem DT.day {f : Nat → va_E} {ad : Nat → Nat} (h : DT f ad 36525) {d y m j : Int} (g : DV y m j d) : aI f (ad 0) d = y ∧ aI f (ad 1) d = m ∧ aI f (ad 2) d = j ∧ aI f (ad 3) d = dI y m := by
  obtain ⟨g1, g2, g3, g4, g5, g6, rfl⟩ := g
  have r := mst_rg g1 g2 g3 g4 g5 g6
  exact h y m j g1 g2 g3 g4 g5 g6 r.2
/-- the class's month of a day -/
theorem DV.month {M d : Int} (h0 : 0 ≤ M) (h1 : M ≤ 1199) (h2 : cyS M ≤ d) (h3 : d < cyS (M + 1)) : DV (2000 + M / 12) (M % 12 + 1) (d - cyS M + 1) d ∧ cyS (M + 1) - cyS M = dI (2000 + M / 12) (M % 12 + 1) := by
  have e1 := cyS_mst (y := 2000 + M / 12) (m := M % 12 + 1) (by omega) (by omega) (by omega)
  have e2 := cyS_nx (y := 2000 + M / 12) (m := M % 12 + 1) (by omega) (by omega) (by omega)
  rw [show (2000 + M / 12 - 2000) * 12 + (M % 12 + 1) - 1 = M by omega] at e1
  rw [show (2000 + M / 12 - 2000) * 12 + (M % 12 + 1) = M + 1 by omega] at e2
  exact ⟨⟨by omega, by omega, by omega, by omega, by omega, by omega, by omega⟩, by omega⟩
/-- what date answers -/
def DR (w r y m j d : Int) : Prop := (w = 0 ∧ r = y) ∨ (w = 1 ∧ r = m) ∨ (w = 2 ∧ r = j) ∨ (w = 3 ∧ r = (d + 5) % 7) ∨ (w = 4 ∧ r = dI y m) ∨ ((w < 0 ∨ 4 < w) ∧ r = -1)
theorem DR.eq {w r r' y m j d : Int} (h : DR w r y m j d) (g : DR w r' y m j d) : r = r' := by
  unfold DR at h g
  generalize dI y m = t at h g
  omega
def DP (d w r : Int) : Prop := (0 ≤ d ∧ d ≤ 36524 ∧ ∃ y m j : Int, DV y m j d ∧ DR w r y m j d) ∨ ((d < 0 ∨ 36524 < d) ∧ r = -1)
theorem DP.eq {d w r r' : Int} (h : DP d w r) (g : DP d w r') : r = r' := by
  rcases h with ⟨h1, h2, y, m, j, h3, h4⟩ | ⟨h1, h2⟩ <;> rcases g with ⟨g1, g2, y', m', j', g3, g4⟩ | ⟨g1, g2⟩
  · obtain ⟨rfl, rfl, rfl⟩ := h3.inj g3
    exact h4.eq g4
  · omega
  · omega
  · omega
theorem cyS_of {d q k : Int} (h0 : 0 ≤ k) (h1 : k ≤ 47) (h2 : cyc.getD k.toNat 0 ≤ d - 1461 * q) (h3 : (k = 47 ∧ d < 1461 * (q + 1)) ∨ (k ≤ 46 ∧ d - 1461 * q < cyc.getD (k + 1).toNat 0)) : cyS (q * 48 + k) ≤ d ∧ d < cyS (q * 48 + k + 1) := by
  unfold cyS
  rw [show (q * 48 + k) / 48 = q by omega, show (q * 48 + k) % 48 = k by omega]
  refine ⟨by omega, ?_⟩
  rcases h3 with ⟨h4, h5⟩ | ⟨h4, h5⟩
  · rw [show (q * 48 + k + 1) / 48 = q + 1 by omega, show (q * 48 + k + 1) % 48 = 0 by omega]
    show d < (q + 1) * 1461 + 0
    omega
  · rw [show (q * 48 + k + 1) / 48 = q by omega, show (q * 48 + k + 1) % 48 = k + 1 by omega]
    omega
theorem day_eq {x1 x2 x3 r r' : Int} (h : (2000 ≤ x1 ∧ x1 ≤ 2099 ∧ 1 ≤ x2 ∧ x2 ≤ 12 ∧ 1 ≤ x3 ∧ x3 ≤ dI x1 x2 ∧ r = mst x1 x2 + x3 - 1) ∨ ((x1 < 2000 ∨ 2099 < x1 ∨ x2 < 1 ∨ 12 < x2 ∨ x3 < 1 ∨ dI x1 x2 < x3) ∧ r = -1)) (g : (2000 ≤ x1 ∧ x1 ≤ 2099 ∧ 1 ≤ x2 ∧ x2 ≤ 12 ∧ 1 ≤ x3 ∧ x3 ≤ dI x1 x2 ∧ r' = mst x1 x2 + x3 - 1) ∨ ((x1 < 2000 ∨ 2099 < x1 ∨ x2 < 1 ∨ 12 < x2 ∨ x3 < 1 ∨ dI x1 x2 < x3) ∧ r' = -1)) : r = r' := by omega
