/-! ===== the reference's calendar: the day's number of a month's first day ===== -/
def dI (y m : Int) : Int := if m = 2 then (if y % 4 = 0 then 29 else 28) else if m = 4 ∨ m = 6 ∨ m = 9 ∨ m = 11 then 30 else 31
def cu (m : Int) : Int := if m = 1 then 0 else if m = 2 then 31 else if m = 3 then 59 else if m = 4 then 90 else if m = 5 then 120 else if m = 6 then 151 else if m = 7 then 181 else if m = 8 then 212 else if m = 9 then 243 else if m = 10 then 273 else if m = 11 then 304 else 334
def mst (y m : Int) : Int := 365 * (y - 2000) + (y - 2000 + 3) / 4 + cu m + (if 3 ≤ m ∧ y % 4 = 0 then 1 else 0)
theorem dI_b (y m : Int) : 28 ≤ dI y m ∧ dI y m ≤ 31 := by
  unfold dI
  split
  · split <;> omega
  · split <;> omega
theorem m12 {m : Int} (h1 : 1 ≤ m) (h2 : m ≤ 12) : m = 1 ∨ m = 2 ∨ m = 3 ∨ m = 4 ∨ m = 5 ∨ m = 6 ∨ m = 7 ∨ m = 8 ∨ m = 9 ∨ m = 10 ∨ m = 11 ∨ m = 12 := by omega
theorem mst_next {y m : Int} (h1 : 1 ≤ m) (h2 : m ≤ 11) : mst y (m + 1) = mst y m + dI y m := by
  by_cases hy : y % 4 = 0 <;> rcases m12 h1 (by omega) with rfl | rfl | rfl | rfl | rfl | rfl | rfl | rfl | rfl | rfl | rfl | rfl <;> simp [mst, cu, dI, hy] at h2 ⊢ <;> omega
theorem mst_year (y : Int) : mst (y + 1) 1 = mst y 12 + dI y 12 := by
  by_cases hy : y % 4 = 0 <;> simp [mst, cu, dI, hy] <;> omega
theorem mst_lo {y m : Int} (h1 : 1 ≤ m) (h2 : m ≤ 12) : mst y 1 ≤ mst y m ∧ mst y m + dI y m ≤ mst (y + 1) 1 := by
  rw [mst_year]
  by_cases hy : y % 4 = 0 <;> rcases m12 h1 h2 with rfl | rfl | rfl | rfl | rfl | rfl | rfl | rfl | rfl | rfl | rfl | rfl <;> simp [mst, cu, dI, hy] <;> omega
theorem mst_ys {y y' : Int} (h : y < y') : mst (y + 1) 1 ≤ mst y' 1 := by
  simp [mst, cu]
  omega
theorem cu_mo {m n : Int} (h1 : 1 ≤ m) (h2 : m ≤ n) (h3 : n ≤ 12) : cu m ≤ cu n := by
  rcases m12 h1 (by omega) with rfl | rfl | rfl | rfl | rfl | rfl | rfl | rfl | rfl | rfl | rfl | rfl <;> rcases m12 (m := n) (by omega) h3 with rfl | rfl | rfl | rfl | rfl | rfl | rfl | rfl | rfl | rfl | rfl | rfl <;> first | decide | (exfalso; omega)
theorem mst_mo {y m n : Int} (h1 : 1 ≤ m) (h2 : m < n) (h3 : n ≤ 12) : mst y m + dI y m ≤ mst y n := by
  rw [← mst_next h1 (by omega)]
  have := cu_mo (m := m + 1) (n := n) (by omega) (by omega) h3
  unfold mst
  split <;> split <;> omega
theorem mst_inj {y m k y' m' k' : Int} (a1 : 1 ≤ m) (a2 : m ≤ 12) (a3 : 1 ≤ k) (a4 : k ≤ dI y m) (b1 : 1 ≤ m') (b2 : m' ≤ 12) (b3 : 1 ≤ k') (b4 : k' ≤ dI y' m') (e : mst y m + k = mst y' m' + k') : y = y' ∧ m = m' ∧ k = k' := by
  have p := mst_lo (y := y) a1 a2
  have q := mst_lo (y := y') b1 b2
  have hy : y = y' := by
    rcases Int.lt_trichotomy y y' with h | h | h
    · have := mst_ys h; omega
    · exact h
    · have := mst_ys h; omega
  subst hy
  have hm : m = m' := by
    rcases Int.lt_trichotomy m m' with h | h | h
    · have := mst_mo (y := y) a1 h b2; omega
    · exact h
    · have := mst_mo (y := y) b1 h a2; omega
  subst hm
  exact ⟨rfl, rfl, by omega⟩
theorem mst_rg {y m k : Int} (h1 : 2000 ≤ y) (h2 : y ≤ 2099) (a1 : 1 ≤ m) (a2 : m ≤ 12) (a3 : 1 ≤ k) (a4 : k ≤ dI y m) : 365 * (y - 2000) ≤ mst y m + k - 1 ∧ mst y m + k - 1 < 36525 := by
  have p := mst_lo (y := y) a1 a2
  have q : mst y 1 ≥ 365 * (y - 2000) := by simp [mst, cu]; omega
  have r : mst (y + 1) 1 ≤ 36525 := by simp [mst, cu]; omega
  omega
theorem mst_0 : mst 2000 1 = 0 := by decide
theorem mst_end : mst 2100 1 = 36525 := by decide
/-- the rows of dates are filled up to the day d -/
def DT (f : Nat → va_E) (ad : Nat → Nat) (d : Int) : Prop := ∀ y m k : Int, 2000 ≤ y → y ≤ 2099 → 1 ≤ m → m ≤ 12 → 1 ≤ k → k ≤ dI y m → mst y m + k - 1 < d → aI f (ad 0) (mst y m + k - 1) = y ∧ aI f (ad 1) (mst y m + k - 1) = m ∧ aI f (ad 2) (mst y m + k - 1) = k ∧ aI f (ad 3) (mst y m + k - 1) = dI y m
theorem DT.step {f g : Nat → va_E} {ad : Nat → Nat} {y m k d : Int} (h : DT f ad d) (hd : d = mst y m + k - 1) (c1 : 2000 ≤ y) (a1 : 1 ≤ m) (a2 : m ≤ 12) (a3 : 1 ≤ k) (a4 : k ≤ dI y m) (h0 : aI g (ad 0) d = y) (h1 : aI g (ad 1) d = m) (h2 : aI g (ad 2) d = k) (h3 : aI g (ad 3) d = dI y m) (o0 : ∀ x : Int, 0 ≤ x → x ≠ d → aI g (ad 0) x = aI f (ad 0) x) (o1 : ∀ x : Int, 0 ≤ x → x ≠ d → aI g (ad 1) x = aI f (ad 1) x) (o2 : ∀ x : Int, 0 ≤ x → x ≠ d → aI g (ad 2) x = aI f (ad 2) x) (o3 : ∀ x : Int, 0 ≤ x → x ≠ d → aI g (ad 3) x = aI f (ad 3) x) : DT g ad (d + 1) := by
  intro y' m' k' p1 p2 p3 p4 p5 p6 p7
  by_cases e : mst y' m' + k' - 1 = d
  · obtain ⟨rfl, rfl, rfl⟩ := mst_inj a1 a2 a3 a4 p3 p4 p5 p6 (by omega)
    rw [e]
    exact ⟨h0, h1, h2, h3⟩
  · have r := mst_rg p1 p2 p3 p4 p5 p6
    rw [o0 _ (by omega) e, o1 _ (by omega) e, o2 _ (by omega) e, o3 _ (by omega) e]
    exact h y' m' k' p1 p2 p3 p4 p5 p6 (by omega)
theorem DT.kp {f g : Nat → va_E} {a : Nat} {ad : Nat → Nat} {rs fs : List Nat} {d : Int} (h : DT f ad d) (k : Kp a ad rs fs f g) (h0 : 0 ∉ rs) (h1 : 1 ∉ rs) (h2 : 2 ∉ rs) (h3 : 3 ∉ rs) : DT g ad d := by
  intro y m j p1 p2 p3 p4 p5 p6 p7
  rw [k.1 0 rfl h0, k.1 1 rfl h1, k.1 2 rfl h2, k.1 3 rfl h3]
  exact h y m j p1 p2 p3 p4 p5 p6 p7
theorem DT.at {f : Nat → va_E} {ad : Nat → Nat} (h : DT f ad 36525) (y m k i : Int) : (2000 ≤ y ∧ y ≤ 2099 ∧ 1 ≤ m ∧ m ≤ 12 ∧ 1 ≤ k ∧ k ≤ dI y m ∧ i = mst y m + k - 1) → aI f (ad 0) i = y ∧ aI f (ad 1) i = m ∧ aI f (ad 2) i = k := by
  rintro ⟨p1, p2, p3, p4, p5, p6, rfl⟩
  have r := mst_rg p1 p2 p3 p4 p5 p6
  obtain ⟨q1, q2, q3, -⟩ := h y m k p1 p2 p3 p4 p5 p6 r.2
  exact ⟨q1, q2, q3⟩
/-- words that are still to be read -/
def tw (flt tok en : Int) : Nat := if flt = 0 ∧ tok = 1 then (169 - en).toNat else 0
theorem tw_dec {n : Nat} {f0 t0 e0 f1 t1 e1 : Int} (h : tw f0 t0 e0 < n + 1) (a : f0 = 0) (b : t0 = 1) (c : e0 ≤ 168) (d : f1 = 0 → t1 = 1 → e0 < e1) : tw f1 t1 e1 < n := by
  unfold tw at h ⊢
  rw [if_pos ⟨a, b⟩] at h
  split
  · next q => have := d q.1 q.2; omega
  · omega
