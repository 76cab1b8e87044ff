/-! ===== counting ===== -/
def ct (p : Int → Bool) : Nat → Int
  | 0 => 0
  | n + 1 => ct p n + (if p (n : Int) = true then 1 else 0)
theorem ct_nn (p : Int → Bool) (n : Nat) : 0 ≤ ct p n ∧ ct p n ≤ n := by
  induction n with
  | zero => exact ⟨Int.le_refl _, Int.le_refl _⟩
  | succ n ih => simp only [ct]; split <;> omega
theorem ct_mono {p q : Int → Bool} {n : Nat} (h : ∀ j : Int, 0 ≤ j → j < n → p j = true → q j = true) : ct p n ≤ ct q n := by
  induction n with
  | zero => exact Int.le_refl _
  | succ n ih =>
    have i1 := ih (fun j h0 h1 => h j h0 (by omega))
    have i2 := h n (by omega) (by omega)
    simp only [ct]
    by_cases c : p (n : Int) = true
    · rw [if_pos c, if_pos (i2 c)]; omega
    · rw [if_neg c]; split <;> omega
theorem ct_congr {p q : Int → Bool} {n : Nat} (h : ∀ j : Int, 0 ≤ j → j < n → (p j = true ↔ q j = true)) : ct p n = ct q n :=
  Int.le_antisymm (ct_mono fun j h0 h1 => (h j h0 h1).mp) (ct_mono fun j h0 h1 => (h j h0 h1).mpr)
theorem ct_none {p : Int → Bool} {n : Nat} (h : ∀ j : Int, 0 ≤ j → j < n → ¬ p j = true) : ct p n = 0 := by
  induction n with
  | zero => rfl
  | succ n ih => simp only [ct]; rw [ih (fun j h0 h1 => h j h0 (by omega)), if_neg (h n (by omega) (by omega))]; rfl
theorem ct_all {p : Int → Bool} {n : Nat} (h : ∀ j : Int, 0 ≤ j → j < n → p j = true) : ct p n = n := by
  induction n with
  | zero => rfl
  | succ n ih => simp only [ct]; rw [ih (fun j h0 h1 => h j h0 (by omega)), if_pos (h n (by omega) (by omega))]; omega
/-- at most one place more -/
theorem ct_one {p q : Int → Bool} {n : Nat} (h : ∀ i j : Int, 0 ≤ i → i < j → j < n → q i = true → ¬ p i = true → q j = true → ¬ p j = true → False) : ct q n ≤ ct p n + 1 := by
  induction n with
  | zero => simp only [ct]; omega
  | succ n ih =>
    have i1 := ih (fun i j h0 h1 h2 => h i j h0 h1 (by omega))
    simp only [ct]
    by_cases c : q (n : Int) = true
    · by_cases c2 : p (n : Int) = true
      · rw [if_pos c, if_pos c2]; omega
      · have : ct q n ≤ ct p n := ct_mono fun j h0 h1 hj => by
          by_cases e : p j = true
          · exact e
          · exact (h j n h0 h1 (by omega) hj e c c2).elim
        rw [if_pos c, if_neg c2]; omega
    · rw [if_neg c]; split <;> omega
theorem ct_swap {p q : Int → Bool} {n a : Nat} (ha : a + 1 < n) (h : ∀ j : Int, 0 ≤ j → j < n → j ≠ a → j ≠ a + 1 → (p j = true ↔ q j = true)) (h1 : p (a : Int) = true ↔ q ((a : Int) + 1) = true) (h2 : p ((a : Int) + 1) = true ↔ q (a : Int) = true) : ct p n = ct q n := by
  induction n with
  | zero => omega
  | succ n ih =>
    by_cases c : a + 1 < n
    · have i1 := ih c (fun j h0 h1 => h j h0 (by omega))
      have i2 := h n (by omega) (by omega) (by omega) (by omega)
      simp only [ct]
      rw [i1]
      by_cases e : p (n : Int) = true
      · rw [if_pos e, if_pos (i2.mp e)]
      · rw [if_neg e, if_neg (fun z => e (i2.mpr z))]
    · obtain rfl : n = a + 1 := by omega
      have i1 : ct p a = ct q a := ct_congr fun j h0 h1 => h j h0 (by omega) (by omega) (by omega)
      simp only [ct]
      rw [i1]
      have e1 : ((a + 1 : Nat) : Int) = (a : Int) + 1 := by omega
      rw [e1]
      by_cases c1 : p (a : Int) = true
      · by_cases c2 : p ((a : Int) + 1) = true
        · rw [if_pos c1, if_pos c2, if_pos (h1.mp c1), if_pos (h2.mp c2)]
        · rw [if_pos c1, if_neg c2, if_pos (h1.mp c1), if_neg (fun z => c2 (h2.mpr z))]; omega
      · by_cases c2 : p ((a : Int) + 1) = true
        · rw [if_neg c1, if_pos c2, if_neg (fun z => c1 (h1.mpr z)), if_pos (h2.mp c2)]; omega
        · rw [if_neg c1, if_neg c2, if_neg (fun z => c1 (h1.mpr z)), if_neg (fun z => c2 (h2.mpr z))]
/-- days from FIRST to d that aren't told otherwise -/
def oC (g : Int → Int) (p d : Int) : Int := ct (fun i => decide (g (p + 12 + 2 * i) ≤ d)) (g (p + 11)).toNat
def NO (g : Int → Int) (p d : Int) : Int := d + 1 - g (p + 10) - oC g p d
theorem oC_step {g : Int → Int} {p : Int} (h : RO g p) (d : Int) : oC g p (d + 1) ≤ oC g p d + 1 := by
  have hn := h.1.2.2.2.2.2.2.2.2.2.1
  refine ct_one fun i j h0 h1 h2 q1 q2 q3 q4 => ?_
  simp only [decide_eq_true_eq] at q1 q2 q3 q4
  exact h.2.2 i j h0 h1 (by omega) (by omega)
theorem oC_same {g : Int → Int} {p : Int} (h : RO g p) (d : Int) (hd : ∀ i : Int, 0 ≤ i → i < g (p + 11) → g (p + 12 + 2 * i) ≠ d + 1) : oC g p (d + 1) = oC g p d := by
  have hn := h.1.2.2.2.2.2.2.2.2.2.1
  refine ct_congr fun j h0 h1 => ?_
  have := hd j h0 (by omega)
  simp only [decide_eq_true_eq]
  omega
theorem NO_mono {g : Int → Int} {p : Int} (h : RO g p) {a b : Int} (hab : a ≤ b) : NO g p a ≤ NO g p b := by
  obtain ⟨n, rfl⟩ : ∃ n : Nat, b = a + n := ⟨(b - a).toNat, by omega⟩
  clear hab
  induction n with
  | zero => simp
  | succ n ih =>
    have := oC_step h (a + n)
    have e : a + ((n + 1 : Nat) : Int) = a + n + 1 := by omega
    rw [e]
    unfold NO at ih ⊢
    omega
theorem NO_step {g : Int → Int} {p d : Int} (h : RO g p) (hd : ∀ i : Int, 0 ≤ i → i < g (p + 11) → g (p + 12 + 2 * i) ≠ d) : NO g p d = NO g p (d - 1) + 1 := by
  have := oC_same h (d - 1) (fun i h0 h1 => by rw [show d - 1 + 1 = d by omega]; exact hd i h0 h1)
  rw [show d - 1 + 1 = d by omega] at this
  unfold NO
  omega
theorem NO_low {g : Int → Int} {p d : Int} (h : RO g p) (hd : g (p + 10) ≤ d + 1) : 0 ≤ NO g p d := by
  have h1 := NO_mono h (a := g (p + 10) - 1) (b := d) (by omega)
  have h2 : oC g p (g (p + 10) - 1) = 0 := ct_none fun j h0 h1 => by
    have hn := h.1.2.2.2.2.2.2.2.2.2.1
    have := (h.2.1 j h0 (by omega)).1
    simp only [decide_eq_true_eq]
    omega
  have h3 : NO g p (g (p + 10) - 1) = 0 := by unfold NO; omega
  omega
theorem NO_top {g : Int → Int} {p : Int} (h : RO g p) : NO g p (UN g p) = UN g p + 1 - g (p + 10) - g (p + 11) := by
  have hn := h.1.2.2.2.2.2.2.2.2.2.1
  have h2 : oC g p (UN g p) = ((g (p + 11)).toNat : Int) := ct_all fun j h0 h1 => by
    have := h.2.1 j h0 (by omega)
    simp only [decide_eq_true_eq]
    unfold UN
    split <;> omega
  unfold NO
  omega
theorem UN_rg {g : Int → Int} {p : Int} (h : RO g p) : 0 ≤ UN g p ∧ UN g p ≤ 36524 := by
  obtain ⟨n1, n2, n3, n4, n5, n6, n7, n8, n9, n10, n11, n12, n13, n14, n15⟩ := h.1
  unfold UN
  split <;> omega
/-- how many of the first n times lie from lo to ahead of hi; and but the place a -/
def cw (g : Int → Int) (b lo hi n : Int) : Int := ct (fun j => decide (lo ≤ g (b + j)) && decide (g (b + j) < hi)) n.toNat
def cx (g : Int → Int) (b lo hi n a : Int) : Int := ct (fun j => decide (j ≠ a) && (decide (lo ≤ g (b + j)) && decide (g (b + j) < hi))) n.toNat
theorem toNat_succ {n : Int} (h : 0 ≤ n) : (n + 1).toNat = n.toNat + 1 := by omega
theorem cw_0 (g : Int → Int) (b lo hi : Int) : cw g b lo hi 0 = 0 := rfl
theorem cw_succ {g : Int → Int} {b lo hi n : Int} (h : 0 ≤ n) : cw g b lo hi (n + 1) = cw g b lo hi n + (if lo ≤ g (b + n) ∧ g (b + n) < hi then 1 else 0) := by
  unfold cw
  rw [toNat_succ h]
  simp only [ct]
  rw [show ((n.toNat : Nat) : Int) = n by omega]
  simp only [Bool.and_eq_true, decide_eq_true_eq]
theorem cw_ge {g : Int → Int} {b lo hi n : Int} : 0 ≤ cw g b lo hi n := (ct_nn _ _).1
theorem cw_mono {g : Int → Int} {b lo hi n m : Int} (h0 : 0 ≤ n) (h : n ≤ m) : cw g b lo hi n ≤ cw g b lo hi m := by
  obtain ⟨k, rfl⟩ : ∃ k : Nat, m = n + k := ⟨(m - n).toNat, by omega⟩
  clear h
  induction k with
  | zero => simp
  | succ k ih =>
    have e : n + ((k + 1 : Nat) : Int) = n + k + 1 := by omega
    rw [e, cw_succ (by omega)]
    split <;> omega
theorem cw_gapN {g : Int → Int} {b lo : Int} (n : Nat) : ∀ hi : Int, (∀ i j : Int, 0 ≤ i → i < j → j < n → g (b + i) + 1440 ≤ g (b + j)) → lo ≤ hi → 1440 * cw g b lo hi n ≤ hi - lo + 1439 := by
  induction n with
  | zero => intro hi _ h; rw [show ((0 : Nat) : Int) = 0 from rfl, cw_0]; omega
  | succ n ih =>
    intro hi hg h
    have e : ((n + 1 : Nat) : Int) = (n : Int) + 1 := by omega
    rw [e, cw_succ (by omega)]
    have hg' : ∀ i j : Int, 0 ≤ i → i < j → j < n → g (b + i) + 1440 ≤ g (b + j) := fun i j h0 h1 h2 => hg i j h0 h1 (by omega)
    by_cases c : lo ≤ g (b + n) ∧ g (b + n) < hi
    · rw [if_pos c]
      have e2 : cw g b lo hi n = cw g b lo (g (b + n) - 1439) n := by
        unfold cw
        refine ct_congr fun j h0 h1 => ?_
        have := hg j n h0 (by omega) (by omega)
        simp only [Bool.and_eq_true, decide_eq_true_eq]
        omega
      by_cases c2 : lo ≤ g (b + n) - 1439
      · have := ih (g (b + n) - 1439) hg' c2
        omega
      · have e3 : cw g b lo (g (b + n) - 1439) n = 0 := by
          unfold cw
          refine ct_none fun j h0 h1 => ?_
          simp only [Bool.and_eq_true, decide_eq_true_eq]
          omega
        omega
    · rw [if_neg c]
      have := ih hi hg' h
      omega
theorem cw_gap {g : Int → Int} {b lo hi n : Int} (h0 : 0 ≤ n) (hg : ∀ i j : Int, 0 ≤ i → i < j → j < n → g (b + i) + 1440 ≤ g (b + j)) (h : hi - lo ≤ 92160) : cw g b lo hi n ≤ 64 := by
  by_cases c : lo ≤ hi
  · have := cw_gapN (g := g) (b := b) (lo := lo) n.toNat hi (fun i j q0 q1 q2 => hg i j q0 q1 (by omega)) c
    rw [show ((n.toNat : Nat) : Int) = n by omega] at this
    omega
  · have : cw g b lo hi n = 0 := by
      unfold cw
      refine ct_none fun j q0 q1 => ?_
      simp only [Bool.and_eq_true, decide_eq_true_eq]
      omega
    omega
theorem cx_enter {g : Int → Int} {b lo hi n : Int} (h0 : 0 ≤ n) : cx g b lo hi (n + 1) n = cw g b lo hi n := by
  unfold cx cw
  rw [toNat_succ h0]
  simp only [ct]
  rw [show ((n.toNat : Nat) : Int) = n by omega, if_neg (by simp), Int.add_zero]
  refine ct_congr fun j q0 q1 => ?_
  have : j ≠ n := by omega
  simp only [Bool.and_eq_true, decide_eq_true_eq]
  exact ⟨fun z => z.2, fun z => ⟨this, z⟩⟩
theorem cx_shift {g g' : Int → Int} {b lo hi n a : Int} (h0 : 1 ≤ a) (h1 : a ≤ n) (hb : 0 ≤ b) (e1 : g' (b + a) = g (b + a - 1)) (e2 : ∀ x : Int, 0 ≤ x → x ≠ b + a → g' x = g x) : cx g' b lo hi (n + 1) (a - 1) = cx g b lo hi (n + 1) a := by
  unfold cx
  refine ct_swap (a := (a - 1).toNat) (by omega) (fun j q0 q1 q2 q3 => ?_) ?_ ?_
  · rw [e2 (b + j) (by omega) (by omega)]
    simp only [Bool.and_eq_true, decide_eq_true_eq]
    exact ⟨fun z => ⟨by omega, z.2⟩, fun z => ⟨by omega, z.2⟩⟩
  · rw [show (((a - 1).toNat : Nat) : Int) = a - 1 by omega, show a - 1 + 1 = a by omega]
    simp only [Bool.and_eq_true, decide_eq_true_eq]
    exact ⟨fun z => absurd rfl z.1, fun z => absurd rfl z.1⟩
  · rw [show (((a - 1).toNat : Nat) : Int) = a - 1 by omega, show a - 1 + 1 = a by omega, e1, show b + a - 1 = b + (a - 1) by omega]
    simp only [Bool.and_eq_true, decide_eq_true_eq]
    exact ⟨fun z => ⟨by omega, z.2⟩, fun z => ⟨by omega, z.2⟩⟩
theorem cx_fill {g g' : Int → Int} {b lo hi n a : Int} (h0 : 0 ≤ a) (hb : 0 ≤ b) (e2 : ∀ x : Int, 0 ≤ x → x ≠ b + a → g' x = g x) : cw g' b lo hi n ≤ cx g b lo hi n a + 1 := by
  unfold cx cw
  refine ct_one fun i j q0 q1 q2 p1 p2 p3 p4 => ?_
  have key : ∀ j : Int, 0 ≤ j → (decide (lo ≤ g' (b + j)) && decide (g' (b + j) < hi)) = true → ¬ (decide (j ≠ a) && (decide (lo ≤ g (b + j)) && decide (g (b + j) < hi))) = true → j = a := by
    intro j q0 p1 p2
    by_cases e : j = a
    · exact e
    · rw [e2 (b + j) (by omega) (by omega)] at p1
      exact absurd (by rw [p1]; simp [e]) p2
  have := key i q0 p1 p2
  have := key j (by omega) p3 p4
  omega
theorem aI_cg {f : Nat → va_E} {a : Nat} {x y : Int} (h : x = y) : aI f a x = aI f a y := by rw [h]
/-- the keys are gone through: n of the first k stay -/
def LT (g K T : Int → Int) (p b all n k : Int) : Prop :=
  0 ≤ n ∧ n ≤ k ∧ (∀ j : Int, k ≤ j → j < all → g (p + 10) ≤ K (b + j) ∧ K (b + j) ≤ UN g p ∧ n ≤ NO g p (K (b + j) - 1) ∧ ∀ i : Int, 0 ≤ i → i < n → T (b + i) + 1440 ≤ 1440 * K (b + j) + g (p + 1)) ∧ (∀ i j : Int, k ≤ i → i < j → j < all → K (b + i) < K (b + j)) ∧ (n = 0 ∨ n ≤ NO g p (UN g p)) ∧ (∀ i j : Int, 0 ≤ i → i < j → j < n → T (b + i) + 1440 ≤ T (b + j)) ∧ (∀ j : Int, 0 ≤ j → j < n → 0 ≤ T (b + j) ∧ T (b + j) ≤ 52595999)
theorem LT.init {g K T : Int → Int} {p b all : Int} (ro : RO g p) (ks : ∀ j : Int, 0 ≤ j → j < all → g (p + 10) ≤ K (b + j) ∧ K (b + j) ≤ UN g p) (ko : ∀ i j : Int, 0 ≤ i → i < j → j < all → K (b + i) < K (b + j)) : LT g K T p b all 0 0 := by
  refine ⟨by omega, by omega, fun j h0 h1 => ⟨(ks j h0 h1).1, (ks j h0 h1).2, NO_low ro (by have := (ks j h0 h1).1; omega), fun i i0 i1 => by omega⟩, fun i j h0 h1 h2 => ko i j h0 h1 h2, Or.inl rfl, fun i j h0 h1 h2 => by omega, fun j h0 h1 => by omega⟩
theorem LT.skip {g K T : Int → Int} {p b all n k : Int} (h : LT g K T p b all n k) : LT g K T p b all n (k + 1) := by
  obtain ⟨h1, h2, h3, h4, h5, h6, h7⟩ := h
  exact ⟨h1, by omega, fun j q0 q1 => h3 j (by omega) q1, fun i j q0 q1 q2 => h4 i j (by omega) q1 q2, h5, h6, h7⟩
theorem LT.keep {g K T K' T' : Int → Int} {p b all n k : Int} (h : LT g K T p b all n k) (ro : RO g p) (hk : k < all) (hb : 0 ≤ b) (hd : ∀ i : Int, 0 ≤ i → i < g (p + 11) → g (p + 12 + 2 * i) ≠ K (b + k)) (eK : ∀ x : Int, 0 ≤ x → x ≠ b + n → K' x = K x) (eT : T' (b + n) = 1440 * K (b + k) + g (p + 1)) (eT' : ∀ x : Int, 0 ≤ x → x ≠ b + n → T' x = T x) : LT g K' T' p b all (n + 1) (k + 1) := by
  obtain ⟨h1, h2, h3, h4, h5, h6, h7⟩ := h
  obtain ⟨a1, a2, a3, a4⟩ := h3 k (Int.le_refl _) hk
  have st := NO_step ro hd
  have un := UN_rg ro
  obtain ⟨n1, n2, n3, n4, n5, n6, n7, n8, n9, n10, n11, n12, n13, n14, n15⟩ := id ro.1
  have kj : ∀ j : Int, k + 1 ≤ j → j < all → K' (b + j) = K (b + j) := fun j q0 q1 => eK _ (by omega) (by omega)
  have tj : ∀ i : Int, 0 ≤ i → i < n → T' (b + i) = T (b + i) := fun i q0 q1 => eT' _ (by omega) (by omega)
  refine ⟨by omega, by omega, fun j q0 q1 => ?_, fun i j q0 q1 q2 => ?_, Or.inr ?_, fun i j q0 q1 q2 => ?_, fun j q0 q1 => ?_⟩
  · rw [kj j q0 q1]
    obtain ⟨b1, b2, b3, b4⟩ := h3 j (by omega) q1
    have lt := h4 k j (Int.le_refl _) (by omega) q1
    have mo := NO_mono ro (a := K (b + k)) (b := K (b + j) - 1) (by omega)
    refine ⟨b1, b2, by omega, fun i i0 i1 => ?_⟩
    by_cases ei : i = n
    · rw [ei, eT]; omega
    · rw [tj i i0 (by omega)]; exact b4 i i0 (by omega)
  · rw [kj i q0 (by omega), kj j (by omega) q2]; exact h4 i j (by omega) q1 q2
  · have mo := NO_mono ro (a := K (b + k)) (b := UN g p) a2
    omega
  · by_cases ej : j = n
    · rw [ej, eT, tj i q0 (by omega)]; exact a4 i q0 (by omega)
    · rw [tj i q0 (by omega), tj j (by omega) (by omega)]; exact h6 i j q0 q1 (by omega)
  · by_cases ej : j = n
    · rw [ej, eT]; constructor <;> omega
    · rw [tj j q0 (by omega)]; exact h7 j q0 (by omega)
/-- the moved ones are put in: k of them have been looked at -/
def LW (T : Int → Int) (b n k : Int) : Prop := (∀ lo hi : Int, hi - lo ≤ 92160 → cw T b lo hi n ≤ 64 + k) ∧ (∀ j : Int, 0 ≤ j → j < n → 0 ≤ T (b + j) ∧ T (b + j) ≤ 52595999)
def LX (T : Int → Int) (b n a k : Int) : Prop := (∀ lo hi : Int, hi - lo ≤ 92160 → cx T b lo hi (n + 1) a ≤ 64 + k) ∧ (∀ j : Int, 0 ≤ j → j < n + 1 → j ≠ a → 0 ≤ T (b + j) ∧ T (b + j) ≤ 52595999)
theorem LT.done {g K T : Int → Int} {p b all n k : Int} (h : LT g K T p b all n k) (ro : RO g p) : 0 ≤ n ∧ n + g (p + 11) ≤ 36525 ∧ LW T b n 0 := by
  obtain ⟨h1, h2, h3, h4, h5, h6, h7⟩ := h
  have un := UN_rg ro
  have tp := NO_top ro
  obtain ⟨n1, n2, n3, n4, n5, n6, n7, n8, n9, n10, n11, n12, n13, n14, n15⟩ := id ro.1
  exact ⟨h1, by omega, fun lo hi q => by have := cw_gap h1 h6 q; omega, h7⟩
theorem LW.mono {T : Int → Int} {b n k k' : Int} (h : LW T b n k) (hk : k ≤ k') : LW T b n k' := ⟨fun lo hi q => by have := h.1 lo hi q; omega, h.2⟩
theorem LW.same {T T' : Int → Int} {b n k : Int} (h : LW T b n k) (e : T' = T) : LW T' b n k := by rw [e]; exact h
theorem LX.same {T T' : Int → Int} {b n a k : Int} (h : LX T b n a k) (e : T' = T) : LX T' b n a k := by rw [e]; exact h
theorem LW.enter {T : Int → Int} {b n k : Int} (h : LW T b n k) (h0 : 0 ≤ n) : LX T b n n k := ⟨fun lo hi q => by rw [cx_enter h0]; exact h.1 lo hi q, fun j q0 q1 q2 => h.2 j q0 (by omega)⟩
theorem LX.shift {T T' : Int → Int} {b n a a' k : Int} (h : LX T b n a k) (h0 : 1 ≤ a) (h1 : a ≤ n) (hb : 0 ≤ b) (ha : a' = a - 1) (e1 : T' (b + a) = T (b + a - 1)) (e2 : ∀ x : Int, 0 ≤ x → x ≠ b + a → T' x = T x) : LX T' b n a' k := by
  subst ha
  refine ⟨fun lo hi q => by rw [cx_shift h0 h1 hb e1 e2]; exact h.1 lo hi q, fun j q0 q1 q2 => ?_⟩
  by_cases ej : j = a
  · rw [ej, e1, show b + a - 1 = b + (a - 1) by omega]; exact h.2 (a - 1) (by omega) (by omega) (by omega)
  · rw [e2 _ (by omega) (by omega)]; exact h.2 j q0 q1 ej
theorem LX.fill {T T' : Int → Int} {b n n' a k k' t : Int} (h : LX T b n a k) (h0 : 0 ≤ a) (hb : 0 ≤ b) (hn : n' = n + 1) (hk : k' = k + 1) (e1 : T' (b + a) = t) (t0 : 0 ≤ t) (t1 : t ≤ 52595999) (e2 : ∀ x : Int, 0 ≤ x → x ≠ b + a → T' x = T x) : LW T' b n' k' := by
  subst hn hk
  refine ⟨fun lo hi q => ?_, fun j q0 q1 => ?_⟩
  · have a1 := cx_fill (g := T) (g' := T') (b := b) (lo := lo) (hi := hi) (n := n + 1) h0 hb e2
    have a2 := h.1 lo hi q
    omega
  · by_cases ej : j = a
    · rw [ej, e1]; exact ⟨t0, t1⟩
    · rw [e2 _ (by omega) (by omega)]; exact h.2 j q0 q1 ej
theorem LT.to {g K T : Int → Int} {p b all n k n' k' : Int} (h : LT g K T p b all n k) (e1 : n' = n) (e2 : k' = k) : LT g K T p b all n' k' := by rw [e1, e2]; exact h
theorem LW.to {T : Int → Int} {b n k n' k' : Int} (h : LW T b n k) (e1 : n' = n) (e2 : k' = k) : LW T b n' k' := by rw [e1, e2]; exact h
theorem LX.to {T : Int → Int} {b n a k a' : Int} (h : LX T b n a k) (e1 : a' = a) : LX T b n a' k := by rw [e1]; exact h
theorem on_to {a b : Int} {g : Int → Int} {c lo hi n n' : Int} (h : a ≤ b + cw g c lo hi n) (e : n' = n) : a ≤ b + cw g c lo hi n' := by rw [e]; exact h
