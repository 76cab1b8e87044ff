/-! ===== steps ===== -/
theorem st_mul {n k j : Int} (hn : 0 < n) (h : k < j) : k * n + n ≤ j * n := by
  have h1 : (k + 1) * n ≤ j * n := Int.mul_le_mul_of_nonneg_right (by omega) (Int.le_of_lt hn)
  rw [Int.add_mul, Int.one_mul] at h1
  exact h1
/-- two multiples of n nearer than n are one -/
theorem st_one {n k j : Int} (hn : 0 < n) (h1 : k * n < j * n + n) (h2 : j * n < k * n + n) : k = j := by
  rcases Int.lt_trichotomy k j with h | h | h
  · have := st_mul hn h; omega
  · exact h
  · have := st_mul hn h; omega
theorem st_dvd {n a : Int} (h : a % n = 0) : a = a / n * n := by
  have := Int.ediv_mul_add_emod a n
  omega
theorem st_lo {n a : Int} (hn : 0 < n) : a / n * n ≤ a := by
  have := Int.ediv_mul_add_emod a n
  have := Int.emod_nonneg a (Int.ne_of_gt hn)
  omega
theorem st_hi {n a : Int} (hn : 0 < n) : a < a / n * n + n := by
  have := Int.ediv_mul_add_emod a n
  have := Int.emod_lt_of_pos a hn
  omega
theorem st_mod (n k : Int) : (k * n) % n = 0 := Int.mul_emod_left k n
/-- the least multiple of n that is not below a -/
theorem st_up {n a : Int} (hn : 0 < n) : a ≤ (a + n - 1) / n * n ∧ (a + n - 1) / n * n < a + n ∧ ∀ x : Int, a ≤ x → x % n = 0 → (a + n - 1) / n * n ≤ x := by
  have l := st_lo (a := a + n - 1) hn
  have h := st_hi (a := a + n - 1) hn
  refine ⟨by omega, by omega, fun x hx h0 => ?_⟩
  have e := st_dvd h0
  rcases Int.lt_or_le (x / n) ((a + n - 1) / n) with c | c
  · have := st_mul hn c; omega
  · have := Int.mul_le_mul_of_nonneg_right c (Int.le_of_lt hn); omega
/-- the greatest multiple of n that is not above a -/
theorem st_dn {n a : Int} (hn : 0 < n) : a - a % n ≤ a ∧ a - n < a - a % n ∧ (a - a % n) % n = 0 ∧ ∀ x : Int, x ≤ a → x % n = 0 → x ≤ a - a % n := by
  have e := Int.ediv_mul_add_emod a n
  have p := Int.emod_nonneg a (Int.ne_of_gt hn)
  have q := Int.emod_lt_of_pos a hn
  have r : a - a % n = a / n * n := by omega
  refine ⟨by omega, by omega, by rw [r]; exact st_mod n _, fun x hx h0 => ?_⟩
  have ex := st_dvd h0
  rcases Int.lt_or_le (a / n) (x / n) with c | c
  · have := st_mul hn c; omega
  · have := Int.mul_le_mul_of_nonneg_right c (Int.le_of_lt hn); omega
theorem st_sub {n a b : Int} (h : a % n = 0) : (b - a) % n = b % n := by
  rw [Int.sub_emod, h, Int.sub_zero, Int.emod_emod]
/-! ===== days in a month ===== -/
theorem mn_nth {f l d w v : Int} (h1 : f ≤ d) (h2 : d ≤ l) (w0 : 0 ≤ w) (w6 : w ≤ 6) (h0 : 0 ≤ f) : ((d + 5) % 7 = w ∧ (d - f) / 7 + 1 = v) ↔ d = f + (w - (f + 5) % 7 + 7) % 7 + 7 * (v - 1) := by omega
theorem mn_last {f l d v : Int} (h1 : f ≤ d) (h2 : d ≤ l) (w0 : 0 ≤ v) (w6 : v ≤ 6) (h0 : 0 ≤ f) : ((d + 5) % 7 = v ∧ d - f + 1 + 7 > l - f + 1) ↔ d = l - ((l + 5) % 7 - v + 7) % 7 := by omega
theorem mn_end {f l d v : Int} : (d - f + 1 = (l + 1 - f) - v + 1) ↔ d = l - v + 1 := by omega
/-- years are twelve times the months -/
theorem yr_mod {yd ys md ms n : Int} (hn : 0 < n) (h1 : 1 ≤ md) (h2 : md ≤ 12) (h3 : 1 ≤ ms) (h4 : ms ≤ 12) : ((yd - ys) % n = 0 ∧ md = ms) ↔ (12 * (yd - ys) + (md - ms)) % (12 * n) = 0 := by
  constructor
  · rintro ⟨a, rfl⟩
    have e := st_dvd a
    rw [e, Int.sub_self, Int.add_zero, Int.mul_comm ((yd - ys) / n) n, ← Int.mul_assoc, Int.mul_comm (12 * n)]
    exact st_mod _ _
  · intro a
    have e := st_dvd a
    generalize (12 * (yd - ys) + (md - ms)) / (12 * n) = k at e
    have e2 : k * (12 * n) = 12 * (k * n) := by rw [Int.mul_left_comm]
    have e3 : md = ms := by omega
    have e4 : yd - ys = k * n := by omega
    exact ⟨by rw [e4]; exact st_mod _ _, e3⟩
/-! ===== months by numbers ===== -/
def wd (d : Int) : Int := (d + 5) % 7
def mo (d : Int) : Int := d / 1461 * 48 + (((cyc.drop 1).countP (fun c => decide (c ≤ d % 1461)) : Nat) : Int)
theorem mo_tab : ∀ r : Nat, r < 1461 → cyc.getD ((cyc.drop 1).countP (fun c => decide (c ≤ (r : Int)))) 0 ≤ (r : Int) ∧ ((cyc.drop 1).countP (fun c => decide (c ≤ (r : Int))) = 47 ∨ ((cyc.drop 1).countP (fun c => decide (c ≤ (r : Int))) ≤ 46 ∧ (r : Int) < cyc.getD ((cyc.drop 1).countP (fun c => decide (c ≤ (r : Int))) + 1) 0)) := by decide +kernel
theorem mo_in {d : Int} (h : 0 ≤ d) : 0 ≤ mo d ∧ cyS (mo d) ≤ d ∧ d < cyS (mo d + 1) := by
  have t := mo_tab (d % 1461).toNat (by omega)
  rw [show (((d % 1461).toNat : Nat) : Int) = d % 1461 by omega] at t
  unfold mo
  generalize (cyc.drop 1).countP (fun c => decide (c ≤ d % 1461)) = k at t
  have hk : k ≤ 47 := by omega
  have z := cyS_of (d := d) (q := d / 1461) (k := (k : Int)) (by omega) (by omega) (by rw [show ((k : Int)).toNat = k by omega]; omega) (by
    rcases t.2 with e | ⟨e1, e2⟩
    · exact Or.inl ⟨by omega, by omega⟩
    · exact Or.inr ⟨by omega, by rw [show ((k : Int) + 1).toNat = k + 1 by omega]; omega⟩)
  exact ⟨by omega, z.1, z.2⟩
theorem cyS_st {M : Int} (h : 0 ≤ M) : 28 ≤ cyS (M + 1) - cyS M ∧ cyS (M + 1) - cyS M ≤ 31 := by
  have e1 := cyS_mst (y := 2000 + M / 12) (m := M % 12 + 1) (by omega) (by omega) (by omega)
  have e2 := cyS_nx (y := 2000 + M / 12) (m := M % 12 + 1) (by omega) (by omega) (by omega)
  rw [show (2000 + M / 12 - 2000) * 12 + (M % 12 + 1) - 1 = M by omega] at e1
  rw [show (2000 + M / 12 - 2000) * 12 + (M % 12 + 1) = M + 1 by omega] at e2
  have b := dI_b (2000 + M / 12) (M % 12 + 1)
  omega
theorem cyS_le (n : Nat) : ∀ M : Int, 0 ≤ M → cyS M + 28 * n ≤ cyS (M + n) := by
  induction n with
  | zero => intro M _; simp
  | succ n ih =>
    intro M h
    have a := ih M h
    have b := cyS_st (M := M + n) (by omega)
    rw [show M + ((n + 1 : Nat) : Int) = M + n + 1 by omega]
    omega
theorem cyS_lt {M N : Int} (h : 0 ≤ M) (g : M < N) : cyS (M + 1) ≤ cyS N := by
  have a := cyS_le (N - M - 1).toNat (M + 1) (by omega)
  rw [show M + 1 + (((N - M - 1).toNat : Nat) : Int) = N by omega] at a
  omega
theorem cyS_mono {M N : Int} (h : 0 ≤ M) (g : M ≤ N) : cyS M ≤ cyS N := by
  by_cases e : M = N
  · rw [e]; exact Int.le_refl _
  · have a := cyS_lt h (show M < N by omega)
    have b := cyS_st h
    omega
theorem mo_eq {d M : Int} (hM : 0 ≤ M) (h1 : cyS M ≤ d) (h2 : d < cyS (M + 1)) (hd : 0 ≤ d) : mo d = M := by
  obtain ⟨a, b, c⟩ := mo_in hd
  rcases Int.lt_trichotomy (mo d) M with h | h | h
  · have := cyS_lt a h; omega
  · exact h
  · have := cyS_lt hM h; omega
theorem cyS_0 : cyS 0 = 0 := by decide
theorem cyS_1200 : cyS 1200 = 36525 := by decide
theorem mo_le {d e : Int} (h : 0 ≤ d) (g : d ≤ e) : mo d ≤ mo e := by
  obtain ⟨a, b, c⟩ := mo_in h
  obtain ⟨a', b', c'⟩ := mo_in (d := e) (by omega)
  rcases Int.lt_or_le (mo e) (mo d) with q | q
  · have := cyS_lt a' q; omega
  · exact q
theorem mo_1199 {d : Int} (h : 0 ≤ d) (g : d ≤ 36524) : mo d ≤ 1199 := by
  obtain ⟨a, b, c⟩ := mo_in h
  rcases Int.lt_or_le 1199 (mo d) with q | q
  · have := cyS_mono (M := 1200) (by omega) (show 1200 ≤ mo d by omega)
    have := cyS_1200
    omega
  · exact q
theorem mo_DV {y m j d : Int} (h : DV y m j d) : mo d = (y - 2000) * 12 + m - 1 ∧ j = d - cyS (mo d) + 1 ∧ dI y m = cyS (mo d + 1) - cyS (mo d) := by
  obtain ⟨h1, h2, h3, h4, h5, h6, h7⟩ := h
  have e1 := cyS_mst h1 h3 h4
  have e2 := cyS_nx h1 h3 h4
  have r := mst_rg h1 h2 h3 h4 h5 h6
  have e := mo_eq (d := d) (M := (y - 2000) * 12 + m - 1) (by omega) (by omega) (by rw [show (y - 2000) * 12 + m - 1 + 1 = (y - 2000) * 12 + m by omega]; omega) (by omega)
  rw [e, show (y - 2000) * 12 + m - 1 + 1 = (y - 2000) * 12 + m by omega]
  exact ⟨rfl, by omega, by omega⟩
/-! ===== rules: first and last day, by steps of months ===== -/
def dIn (k v w M : Int) : Int := if k = 4 then cyS (M + 1) - v else if k = 5 then cyS M + (w - wd (cyS M) + 7) % 7 + 7 * (v - 1) else if k = 6 then cyS (M + 1) - 1 - (wd (cyS (M + 1) - 1) - w + 7) % 7 else cyS M + v - 1
def okM (k v w : Int) : Prop := ((k = 3 ∨ k = 7) ∧ 1 ≤ v ∧ v ≤ 31) ∨ (k = 4 ∧ 1 ≤ v ∧ v ≤ 28) ∨ (k = 5 ∧ 1 ≤ v ∧ v ≤ 5 ∧ 0 ≤ w ∧ w ≤ 6) ∨ (k = 6 ∧ 0 ≤ w ∧ w ≤ 6)
def onM (k n s v w d : Int) : Prop := s ≤ d ∧ (mo d - mo s) % n = 0 ∧ d = dIn k v w (mo d)
theorem dIn_lo {k v w M : Int} (h : okM k v w) (hM : 0 ≤ M) : cyS M ≤ dIn k v w M ∧ dIn k v w M ≤ cyS M + 40 := by
  have b := cyS_st hM
  unfold dIn wd
  unfold okM at h
  rcases h with ⟨h1 | h1, h2⟩ | ⟨h1, h2⟩ | ⟨h1, h2⟩ | ⟨h1, h2⟩ <;> subst h1 <;> simp <;> omega
theorem mo_ge {d M : Int} (hd : 0 ≤ d) (hM : 0 ≤ M) (h : cyS M ≤ d) : M ≤ mo d := by
  obtain ⟨a, b, c⟩ := mo_in hd
  rcases Int.lt_or_le (mo d) M with q | q
  · have := cyS_lt a q; omega
  · exact q
theorem mo_lt {d M : Int} (hd : 0 ≤ d) (hM : 0 ≤ M) (h : d < cyS M) : mo d < M := by
  obtain ⟨a, b, c⟩ := mo_in hd
  rcases Int.lt_or_le (mo d) M with q | q
  · exact q
  · have := cyS_mono hM q; omega
/-- steps of n from c: nothing between two of them -/
theorem st_gap {n c M x : Int} (hn : 0 < n) (h1 : (M - c) % n = 0) (h2 : (x - c) % n = 0) (h3 : M - n < x) (h4 : x < M + n) : x = M := by
  have e1 := st_dvd h1
  have e2 := st_dvd h2
  have := st_one (k := (x - c) / n) (j := (M - c) / n) hn (by omega) (by omega)
  rw [this] at e2
  omega
theorem mf_out {k n s v w a M : Int} (hn : 0 < n) (hs : 0 ≤ s) (ha : s ≤ a) (hM : mo s ≤ M) (hMn : (M - mo s) % n = 0) (inv : ∀ d : Int, a ≤ d → d < cyS M → ¬ onM k n s v w d) (out : dIn k v w M < a ∨ cyS (M + 1) ≤ dIn k v w M) : ∀ d : Int, a ≤ d → d < cyS (M + n) → ¬ onM k n s v w d := by
  intro d h1 h2 ⟨p1, p2, p3⟩
  obtain ⟨s0, -, -⟩ := mo_in hs
  obtain ⟨q0, q1, q2⟩ := mo_in (d := d) (by omega)
  rcases Int.lt_or_le d (cyS M) with c | c
  · exact inv d h1 c ⟨p1, p2, p3⟩
  · have g1 := mo_ge (d := d) (M := M) (by omega) (by omega) c
    have g2 := mo_lt (d := d) (M := M + n) (by omega) (by omega) h2
    have e := st_gap hn hMn p2 (by omega) g2
    rw [e] at p3 q2
    omega
theorem mf_in {k n s v w a M : Int} (hs : 0 ≤ s) (ha : s ≤ a) (hM : mo s ≤ M) (hMn : (M - mo s) % n = 0) (inv : ∀ d : Int, a ≤ d → d < cyS M → ¬ onM k n s v w d) (lo : cyS M ≤ dIn k v w M) (h1 : a ≤ dIn k v w M) (h2 : dIn k v w M < cyS (M + 1)) : onM k n s v w (dIn k v w M) ∧ ∀ d : Int, a ≤ d → d < dIn k v w M → ¬ onM k n s v w d := by
  obtain ⟨s0, -, -⟩ := mo_in hs
  have e := mo_eq (d := dIn k v w M) (M := M) (by omega) lo h2 (by omega)
  refine ⟨⟨by omega, by rw [e]; exact hMn, by rw [e]⟩, fun d g1 g2 => ?_⟩
  intro ⟨p1, p2, p3⟩
  rcases Int.lt_or_le d (cyS M) with c | c
  · exact inv d g1 c ⟨p1, p2, p3⟩
  · have e2 := mo_eq (d := d) (M := M) (by omega) c (by omega) (by omega)
    rw [e2] at p3
    omega
/-- the month that the search begins with -/
theorem mf_from {k n s v w a : Int} (hn : 0 < n) (hs : 0 ≤ s) (ha : s ≤ a) (M : Int) (hM : ((mo a - mo s) % n = 0 ∧ M = mo a) ∨ ((mo a - mo s) % n ≠ 0 ∧ M = mo a - (mo a - mo s) % n + n)) : mo a ≤ M ∧ (M - mo s) % n = 0 ∧ ∀ d : Int, a ≤ d → d < cyS M → ¬ onM k n s v w d := by
  obtain ⟨s0, -, -⟩ := mo_in hs
  obtain ⟨a0, a1, a2⟩ := mo_in (d := a) (by omega)
  have sa := mo_le hs ha
  have m0 := Int.emod_nonneg (mo a - mo s) (Int.ne_of_gt hn)
  have m1 := Int.emod_lt_of_pos (mo a - mo s) hn
  have e0 := Int.ediv_mul_add_emod (mo a - mo s) n
  rcases hM with ⟨h1, h2⟩ | ⟨h1, h2⟩
  · subst h2
    exact ⟨Int.le_refl _, h1, fun d g1 g2 => absurd g2 (by omega)⟩
  · have hq : M - mo s = ((mo a - mo s) / n + 1) * n := by rw [Int.add_mul, Int.one_mul]; omega
    have hm : (M - mo s) % n = 0 := by rw [hq]; exact st_mod _ _
    refine ⟨by omega, hm, fun d g1 g2 => ?_⟩
    intro ⟨p1, p2, p3⟩
    have g3 := mo_le (d := a) (e := d) (by omega) g1
    have g4 := mo_lt (d := d) (M := M) (by omega) (by omega) g2
    have e := st_gap hn hm p2 (by omega) (by omega)
    omega
theorem mf_none {k n s v w a M : Int} (hM : 1200 ≤ M) (inv : ∀ d : Int, a ≤ d → d < cyS M → ¬ onM k n s v w d) : ∀ d : Int, a ≤ d → d ≤ 36524 → ¬ onM k n s v w d := by
  intro d h1 h2
  have := cyS_mono (M := 1200) (by omega) hM
  have := cyS_1200
  exact inv d h1 (by omega)
/-- what dayFrom and dayTo answer -/
def Fst (p : Int → Prop) (a r : Int) : Prop := (a ≤ r ∧ r ≤ 36524 ∧ p r ∧ ∀ d : Int, a ≤ d → d < r → ¬ p d) ∨ (r = -1 ∧ ∀ d : Int, a ≤ d → d ≤ 36524 → ¬ p d)
def Lst (p : Int → Prop) (b r : Int) : Prop := (0 ≤ r ∧ r ≤ b ∧ p r ∧ ∀ d : Int, r < d → d ≤ b → ¬ p d) ∨ (r = -1 ∧ ∀ d : Int, 0 ≤ d → d ≤ b → ¬ p d)
theorem Fst.one {p : Int → Prop} {a r r' : Int} (ha : 0 ≤ a) (h : Fst p a r) (g : Fst p a r') : r = r' := by
  rcases h with ⟨h1, h2, h3, h4⟩ | ⟨h1, h2⟩ <;> rcases g with ⟨g1, g2, g3, g4⟩ | ⟨g1, g2⟩
  · rcases Int.lt_trichotomy r r' with c | c | c
    · exact absurd h3 (g4 r h1 c)
    · exact c
    · exact absurd g3 (h4 r' g1 c)
  · exact absurd h3 (g2 r h1 h2)
  · exact absurd g3 (h2 r' g1 g2)
  · omega
theorem Lst.one {p : Int → Prop} {b r r' : Int} (h : Lst p b r) (g : Lst p b r') : r = r' := by
  rcases h with ⟨h1, h2, h3, h4⟩ | ⟨h1, h2⟩ <;> rcases g with ⟨g1, g2, g3, g4⟩ | ⟨g1, g2⟩
  · rcases Int.lt_trichotomy r r' with c | c | c
    · exact absurd g3 (h4 r' c g2)
    · exact c
    · exact absurd h3 (g4 r c h2)
  · exact absurd h3 (g2 r h1 h2)
  · exact absurd g3 (h2 r' g1 g2)
  · omega
/-! steps of days -/
def onD (n s d : Int) : Prop := s ≤ d ∧ (d - s) % n = 0
theorem df_up {n s a : Int} (hn : 0 < n) (ha : s < a) : s + (a - s + n - 1) / n * n ≤ 36524 → Fst (onD n s) a (s + (a - s + n - 1) / n * n) := by
  intro hh
  obtain ⟨u1, u2, u3⟩ := st_up (n := n) (a := a - s) hn
  refine Or.inl ⟨by omega, hh, ⟨by omega, by rw [show s + (a - s + n - 1) / n * n - s = (a - s + n - 1) / n * n by omega]; exact st_mod _ _⟩, fun d g1 g2 => ?_⟩
  intro ⟨p1, p2⟩
  have := u3 (d - s) (by omega) p2
  omega
theorem df_none {n s a : Int} (hn : 0 < n) (ha : s < a) : 36524 < s + (a - s + n - 1) / n * n → Fst (onD n s) a (-1) := by
  intro hh
  obtain ⟨u1, u2, u3⟩ := st_up (n := n) (a := a - s) hn
  refine Or.inr ⟨rfl, fun d g1 g2 => ?_⟩
  intro ⟨p1, p2⟩
  have := u3 (d - s) (by omega) p2
  omega
theorem df_start {n s : Int} (h : s ≤ 36524) : Fst (onD n s) s s := Or.inl ⟨Int.le_refl _, h, ⟨Int.le_refl _, by rw [Int.sub_self]; exact Int.zero_emod n⟩, fun d g1 g2 => absurd g2 (by omega)⟩
theorem dt_dn {n s b : Int} (hn : 0 < n) (hs : 0 ≤ s) (hb : s ≤ b) : Lst (onD n s) b (b - (b - s) % n) := by
  obtain ⟨u1, u2, u3, u4⟩ := st_dn (n := n) (a := b - s) hn
  have u5 : 0 ≤ (b - s) - (b - s) % n := u4 0 (by omega) (Int.zero_emod n)
  refine Or.inl ⟨by omega, by omega, ⟨by omega, by rw [show b - (b - s) % n - s = b - s - (b - s) % n by omega]; exact u3⟩, fun d g1 g2 => ?_⟩
  intro ⟨p1, p2⟩
  have := u4 (d - s) (by omega) p2
  omega
/-! ===== rules: the last day by steps of months ===== -/
theorem mt_from {k n s v w b M : Int} (hn : 0 < n) (hs : 0 ≤ s) (hb : s ≤ b) (hM : M = mo b - (mo b - mo s) % n) : mo s ≤ M ∧ M ≤ mo b ∧ (M - mo s) % n = 0 ∧ ∀ d : Int, s ≤ d → d ≤ b → onM k n s v w d → mo d ≤ M := by
  obtain ⟨s0, -, -⟩ := mo_in hs
  have sb := mo_le hs hb
  obtain ⟨u1, u2, u3, u4⟩ := st_dn (n := n) (a := mo b - mo s) hn
  have u5 : 0 ≤ (mo b - mo s) - (mo b - mo s) % n := u4 0 (by omega) (Int.zero_emod n)
  subst hM
  refine ⟨by omega, by omega, by rw [show mo b - (mo b - mo s) % n - mo s = mo b - mo s - (mo b - mo s) % n by omega]; exact u3, fun d h1 h2 ⟨p1, p2, p3⟩ => ?_⟩
  have g := mo_le (d := d) (e := b) (by omega) h2
  have := u4 (mo d - mo s) (by omega) p2
  omega
theorem mt_out {k n s v w b M : Int} (hn : 0 < n) (hs : 0 ≤ s) (hMn : (M - mo s) % n = 0) (inv : ∀ d : Int, s ≤ d → d ≤ b → onM k n s v w d → mo d ≤ M) (out : b < dIn k v w M ∨ cyS (M + 1) ≤ dIn k v w M) : ∀ d : Int, s ≤ d → d ≤ b → onM k n s v w d → mo d ≤ M - n := by
  intro d h1 h2 ⟨p1, p2, p3⟩
  have i := inv d h1 h2 ⟨p1, p2, p3⟩
  obtain ⟨q0, q1, q2⟩ := mo_in (d := d) (by omega)
  rcases Int.lt_or_le (M - n) (mo d) with c | c
  · have e := st_gap hn hMn p2 c (by omega)
    rw [e] at p3 q2
    omega
  · exact c
theorem mt_in {k n s v w b M : Int} (hs : 0 ≤ s) (hM : mo s ≤ M) (hMn : (M - mo s) % n = 0) (inv : ∀ d : Int, s ≤ d → d ≤ b → onM k n s v w d → mo d ≤ M) (lo : cyS M ≤ dIn k v w M) (h2 : dIn k v w M < cyS (M + 1)) (h3 : s ≤ dIn k v w M) : onM k n s v w (dIn k v w M) ∧ ∀ d : Int, dIn k v w M < d → d ≤ b → ¬ onM k n s v w d := by
  obtain ⟨s0, -, -⟩ := mo_in hs
  have e := mo_eq (d := dIn k v w M) (M := M) (by omega) lo h2 (by omega)
  refine ⟨⟨h3, by rw [e]; exact hMn, by rw [e]⟩, fun d g1 g2 => ?_⟩
  intro ⟨p1, p2, p3⟩
  have i := inv d p1 g2 ⟨p1, p2, p3⟩
  have j := mo_ge (d := d) (M := M) (by omega) (by omega) (by omega)
  have e2 : mo d = M := by omega
  rw [e2] at p3
  omega
theorem mt_low {k n s v w b M : Int} (hs : 0 ≤ s) (hM : mo s ≤ M) (inv : ∀ d : Int, s ≤ d → d ≤ b → onM k n s v w d → mo d ≤ M) (lo : cyS M ≤ dIn k v w M) (h3 : dIn k v w M < s) : ∀ d : Int, 0 ≤ d → d ≤ b → ¬ onM k n s v w d := by
  intro d h1 h2 ⟨p1, p2, p3⟩
  obtain ⟨s0, s1, s2⟩ := mo_in hs
  have i := inv d p1 h2 ⟨p1, p2, p3⟩
  have j := mo_le hs p1
  rcases Int.lt_or_le (mo s) M with c | c
  · have := cyS_lt s0 c; omega
  · have e : mo d = M := by omega
    rw [e] at p3
    omega
theorem mt_end {k n s v w b M : Int} (hs : 0 ≤ s) (hM : M < mo s) (inv : ∀ d : Int, s ≤ d → d ≤ b → onM k n s v w d → mo d ≤ M) : ∀ d : Int, 0 ≤ d → d ≤ b → ¬ onM k n s v w d := by
  intro d h1 h2 ⟨p1, p2, p3⟩
  have i := inv d p1 h2 ⟨p1, p2, p3⟩
  have j := mo_le hs p1
  omega
/-! ===== how many ===== -/
noncomputable def cnN (p : Int → Prop) (a : Int) : Nat → Int
  | 0 => 0
  | n + 1 => cnN p a n + @ite Int (p (a + n)) (Classical.propDecidable _) 1 0
noncomputable def cn (p : Int → Prop) (a b : Int) : Int := cnN p a (b - a).toNat
theorem cn_le {p : Int → Prop} {a b : Int} (h : b ≤ a) : cn p a b = 0 := by unfold cn; rw [show (b - a).toNat = 0 by omega]; rfl
theorem cn_yes {p : Int → Prop} {a b : Int} (h : a ≤ b) (g : p b) : cn p a (b + 1) = cn p a b + 1 := by
  unfold cn
  rw [show (b + 1 - a).toNat = (b - a).toNat + 1 by omega]
  show cnN p a (b - a).toNat + _ = _
  rw [show a + (((b - a).toNat : Nat) : Int) = b by omega, if_pos g]
theorem cn_no {p : Int → Prop} {a b : Int} (h : a ≤ b) (g : ¬ p b) : cn p a (b + 1) = cn p a b := by
  unfold cn
  rw [show (b + 1 - a).toNat = (b - a).toNat + 1 by omega]
  show cnN p a (b - a).toNat + _ = _
  rw [show a + (((b - a).toNat : Nat) : Int) = b by omega, if_neg g, Int.add_zero]
theorem cn_addN {p : Int → Prop} {a b : Int} (h : a ≤ b) (n : Nat) : cn p a (b + n) = cn p a b + cn p b (b + n) := by
  induction n with
  | zero => rw [show b + ((0 : Nat) : Int) = b by omega, cn_le (p := p) (Int.le_refl b), Int.add_zero]
  | succ n ih =>
    rw [show b + ((n + 1 : Nat) : Int) = b + n + 1 by omega]
    rcases Classical.em (p (b + n)) with c | c
    · rw [cn_yes (by omega) c, cn_yes (by omega) c, ih]; omega
    · rw [cn_no (by omega) c, cn_no (by omega) c, ih]
theorem cn_add {p : Int → Prop} {a b c : Int} (h : a ≤ b) (g : b ≤ c) : cn p a c = cn p a b + cn p b c := by
  have := cn_addN (p := p) h (c - b).toNat
  rw [show b + (((c - b).toNat : Nat) : Int) = c by omega] at this
  exact this
theorem cn_noneN {p : Int → Prop} {a : Int} (n : Nat) : (∀ d : Int, a ≤ d → d < a + n → ¬ p d) → cn p a (a + n) = 0 := by
  induction n with
  | zero => intro _; exact cn_le (by omega)
  | succ n ih =>
    intro h
    rw [show a + ((n + 1 : Nat) : Int) = a + n + 1 by omega, cn_no (by omega) (h _ (by omega) (by omega))]
    exact ih (fun d h1 h2 => h d h1 (by omega))
theorem cn_none {p : Int → Prop} {a b : Int} (h : ∀ d : Int, a ≤ d → d < b → ¬ p d) : cn p a b = 0 := by
  rcases Int.lt_or_le b a with c | c
  · exact cn_le (by omega)
  · have := cn_noneN (p := p) (a := a) (b - a).toNat (fun d h1 h2 => h d h1 (by omega))
    rw [show a + (((b - a).toNat : Nat) : Int) = b by omega] at this
    exact this
theorem cn_one {p : Int → Prop} {a b r : Int} (h1 : a ≤ r) (h2 : r < b) (h3 : p r) (h4 : ∀ d : Int, a ≤ d → d < b → p d → d = r) : cn p a b = 1 := by
  rw [cn_add (b := r) h1 (by omega), cn_add (a := r) (b := r + 1) (by omega) (by omega), cn_none (a := a) (b := r) (fun d g1 g2 g3 => by have := h4 d g1 (by omega) g3; omega), cn_none (a := r + 1) (fun d g1 g2 g3 => by have := h4 d (by omega) g2 g3; omega)]
  rw [cn_yes (Int.le_refl r) h3, cn_le (Int.le_refl r)]
  omega
theorem cn_pos {p : Int → Prop} {a b : Int} : 0 ≤ cn p a b ∧ cn p a b ≤ max 0 (b - a) := by
  rcases Int.lt_or_le b a with c | c
  · rw [cn_le (by omega)]; omega
  · have h : ∀ n : Nat, 0 ≤ cn p a (a + n) ∧ cn p a (a + n) ≤ n := by
      intro n
      induction n with
      | zero => rw [cn_le (by omega)]; omega
      | succ n ih =>
        rw [show a + ((n + 1 : Nat) : Int) = a + n + 1 by omega]
        rcases Classical.em (p (a + n)) with c | c
        · rw [cn_yes (by omega) c]; omega
        · rw [cn_no (by omega) c]; omega
    have := h (b - a).toNat
    rw [show a + (((b - a).toNat : Nat) : Int) = b by omega] at this
    omega
/-- a month more: its day is one of them, or none is -/
theorem mc_yes {k n s v w a t M : Int} (hn : 0 < n) (hs : 0 ≤ s) (ha : s ≤ a) (hM : mo s ≤ M) (hMn : (M - mo s) % n = 0) (hMt : cyS M ≤ t) (lo : cyS M ≤ dIn k v w M) (h2 : dIn k v w M < cyS (M + 1)) (h3 : a ≤ dIn k v w M) (h4 : dIn k v w M ≤ t) : cn (onM k n s v w) a (min (cyS (M + n)) (t + 1)) = cn (onM k n s v w) a (min (cyS M) (t + 1)) + 1 := by
  obtain ⟨s0, -, -⟩ := mo_in hs
  have e := mo_eq (d := dIn k v w M) (M := M) (by omega) lo h2 (by omega)
  have st := cyS_lt (M := M) (N := M + n) (by omega) (by omega)
  have on : onM k n s v w (dIn k v w M) := ⟨by omega, by rw [e]; exact hMn, by rw [e]⟩
  have uq : ∀ d : Int, max a (cyS M) ≤ d → d < min (cyS (M + n)) (t + 1) → onM k n s v w d → d = dIn k v w M := by
    intro d g1 g2 ⟨p1, p2, p3⟩
    have g3 := mo_ge (d := d) (M := M) (by omega) (by omega) (by omega)
    have g4 := mo_lt (d := d) (M := M + n) (by omega) (by omega) (by omega)
    have e2 := st_gap hn hMn p2 (by omega) g4
    rw [e2] at p3
    exact p3
  rcases Int.lt_or_le (cyS M) a with c | c
  · rw [cn_le (b := min (cyS M) (t + 1)) (by omega), cn_one (r := dIn k v w M) h3 (by omega) on (fun d g1 g2 g3 => uq d (by omega) g2 g3)]
    omega
  · rw [show min (cyS M) (t + 1) = cyS M by omega, cn_add (a := a) (b := cyS M) c (by omega), cn_one (a := cyS M) (r := dIn k v w M) lo (by omega) on (fun d g1 g2 g3 => uq d (by omega) g2 g3)]
theorem mc_no {k n s v w a t M : Int} (hn : 0 < n) (hs : 0 ≤ s) (ha : s ≤ a) (hM : mo s ≤ M) (hMn : (M - mo s) % n = 0) (hMt : cyS M ≤ t) (h : cyS (M + 1) ≤ dIn k v w M ∨ dIn k v w M < a ∨ t < dIn k v w M) : cn (onM k n s v w) a (min (cyS (M + n)) (t + 1)) = cn (onM k n s v w) a (min (cyS M) (t + 1)) := by
  obtain ⟨s0, -, -⟩ := mo_in hs
  have st := cyS_lt (M := M) (N := M + n) (by omega) (by omega)
  have b0 := cyS_st (M := M) (by omega)
  have no : ∀ d : Int, max a (cyS M) ≤ d → d < min (cyS (M + n)) (t + 1) → ¬ onM k n s v w d := by
    intro d g1 g2 ⟨p1, p2, p3⟩
    have g3 := mo_ge (d := d) (M := M) (by omega) (by omega) (by omega)
    have g4 := mo_lt (d := d) (M := M + n) (by omega) (by omega) (by omega)
    have e2 := st_gap hn hMn p2 (by omega) g4
    obtain ⟨q0, q1, q2⟩ := mo_in (d := d) (by omega)
    rw [e2] at p3 q2
    omega
  rcases Int.lt_or_le (cyS M) a with c | c
  · rw [cn_le (b := min (cyS M) (t + 1)) (by omega), cn_none (fun d g1 g2 => no d (by omega) g2)]
  · rw [show min (cyS M) (t + 1) = cyS M by omega, cn_add (a := a) (b := cyS M) c (by omega), cn_none (a := cyS M) (fun d g1 g2 => no d (by omega) g2), Int.add_zero]
/-! ===== rules: steps of weeks ===== -/
def wb (v i : Int) : Bool := v.toNat.testBit i.toNat
def pW (n m v d : Int) : Prop := ((d - m) / 7) % n = 0 ∧ wb v ((d - m) % 7) = true
def onW (n s v d : Int) : Prop := s ≤ d ∧ pW n (s - wd s) v d
/-- the reference's words for it -/
theorem onW_iff {n s v d : Int} (hs : 0 ≤ s) (hd : s ≤ d) : pW n (s - wd s) v d ↔ (wb v (wd d) = true ∧ ((d + 5) / 7 - (s + 5) / 7) % n = 0) := by
  unfold pW wd
  rw [show (d - (s - (s + 5) % 7)) / 7 = (d + 5) / 7 - (s + 5) / 7 by omega, show (d - (s - (s + 5) % 7)) % 7 = (d + 5) % 7 by omega]
  exact And.comm
theorem st_gap0 {n M x : Int} (hn : 0 < n) (h1 : M % n = 0) (h2 : x % n = 0) (h3 : M - n < x) (h4 : x < M + n) : x = M := st_gap (c := 0) hn (by rw [Int.sub_zero]; exact h1) (by rw [Int.sub_zero]; exact h2) h3 h4
/-- the search's weekday lies in the week it begins with -/
theorem wf_a {n m v a f : Int} (hm : m ≤ a) (h0 : ((a - m) / 7) % n = 0) (f1 : (a - m) % 7 ≤ f) (f2 : f ≤ 6) (f3 : wb v f = true) (f4 : ∀ i : Int, (a - m) % 7 ≤ i → i < f → wb v i = false) : a ≤ m + 7 * ((a - m) / 7) + f ∧ pW n m v (m + 7 * ((a - m) / 7) + f) ∧ ∀ d : Int, a ≤ d → d < m + 7 * ((a - m) / 7) + f → ¬ pW n m v d := by
  refine ⟨by omega, ⟨?_, ?_⟩, fun d g1 g2 ⟨p1, p2⟩ => ?_⟩
  · rw [show (m + 7 * ((a - m) / 7) + f - m) / 7 = (a - m) / 7 by omega]; exact h0
  · rw [show (m + 7 * ((a - m) / 7) + f - m) % 7 = f by omega]; exact f3
  · have := f4 ((d - m) % 7) (by omega) (by omega)
    rw [this] at p2
    cases p2
/-- it lies in a later week W of the rule: nothing in between -/
theorem wf_b {n m v a f W : Int} (hn : 0 < n) (hW : W % n = 0) (h1 : (a - m) / 7 < W) (h2 : W - n ≤ (a - m) / 7) (h3 : W - n = (a - m) / 7 → ∀ i : Int, (a - m) % 7 ≤ i → i ≤ 6 → wb v i = false) (f1 : 0 ≤ f) (f2 : f ≤ 6) (f3 : wb v f = true) (f4 : ∀ i : Int, 0 ≤ i → i < f → wb v i = false) : a ≤ m + 7 * W + f ∧ pW n m v (m + 7 * W + f) ∧ ∀ d : Int, a ≤ d → d < m + 7 * W + f → ¬ pW n m v d := by
  refine ⟨by omega, ⟨?_, ?_⟩, fun d g1 g2 ⟨p1, p2⟩ => ?_⟩
  · rw [show (m + 7 * W + f - m) / 7 = W by omega]; exact hW
  · rw [show (m + 7 * W + f - m) % 7 = f by omega]; exact f3
  · rcases Int.lt_or_le (W - n) ((d - m) / 7) with c | c
    · have e := st_gap0 hn hW p1 c (by omega)
      have := f4 ((d - m) % 7) (by omega) (by omega)
      rw [this] at p2
      cases p2
    · have := h3 (by omega) ((d - m) % 7) (by omega) (by omega)
      rw [this] at p2
      cases p2
theorem st_behind {n w : Int} (hn : 0 < n) : (w - w % n) % n = 0 ∧ (w - w % n + n) % n = 0 ∧ 0 ≤ w % n ∧ w % n < n := by
  have e := Int.ediv_mul_add_emod w n
  have r : w - w % n = w / n * n := by omega
  refine ⟨by rw [r]; exact st_mod _ _, ?_, Int.emod_nonneg _ (Int.ne_of_gt hn), Int.emod_lt_of_pos _ hn⟩
  rw [show w - w % n + n = (w / n + 1) * n by rw [Int.add_mul, Int.one_mul]; omega]
  exact st_mod _ _
theorem Fst.of {p : Int → Prop} {a r : Int} (h1 : a ≤ r) (h2 : p r) (h3 : ∀ d : Int, a ≤ d → d < r → ¬ p d) : (r ≤ 36524 → Fst p a r) ∧ (36524 < r → Fst p a (-1)) :=
  ⟨fun h => Or.inl ⟨h1, h, h2, h3⟩, fun h => Or.inr ⟨rfl, fun d g1 g2 => h3 d g1 (by omega)⟩⟩
/-- back: in the week of b, or in an earlier week W of the rule -/
theorem wt_a {n m v b f : Int} (hm : m ≤ b) (h0 : ((b - m) / 7) % n = 0) (f1 : 0 ≤ f) (f2 : f ≤ (b - m) % 7) (f3 : wb v f = true) (f4 : ∀ i : Int, f < i → i ≤ (b - m) % 7 → wb v i = false) : m + 7 * ((b - m) / 7) + f ≤ b ∧ pW n m v (m + 7 * ((b - m) / 7) + f) ∧ ∀ d : Int, m + 7 * ((b - m) / 7) + f < d → d ≤ b → ¬ pW n m v d := by
  refine ⟨by omega, ⟨?_, ?_⟩, fun d g1 g2 ⟨p1, p2⟩ => ?_⟩
  · rw [show (m + 7 * ((b - m) / 7) + f - m) / 7 = (b - m) / 7 by omega]; exact h0
  · rw [show (m + 7 * ((b - m) / 7) + f - m) % 7 = f by omega]; exact f3
  · have := f4 ((d - m) % 7) (by omega) (by omega)
    rw [this] at p2
    cases p2
theorem wt_b {n m v b f W : Int} (hn : 0 < n) (hW : W % n = 0) (h1 : W < (b - m) / 7) (h2 : (b - m) / 7 ≤ W + n) (h3 : W + n = (b - m) / 7 → ∀ i : Int, 0 ≤ i → i ≤ (b - m) % 7 → wb v i = false) (f1 : 0 ≤ f) (f2 : f ≤ 6) (f3 : wb v f = true) (f4 : ∀ i : Int, f < i → i ≤ 6 → wb v i = false) : m + 7 * W + f ≤ b ∧ pW n m v (m + 7 * W + f) ∧ ∀ d : Int, m + 7 * W + f < d → d ≤ b → ¬ pW n m v d := by
  refine ⟨by omega, ⟨?_, ?_⟩, fun d g1 g2 ⟨p1, p2⟩ => ?_⟩
  · rw [show (m + 7 * W + f - m) / 7 = W by omega]; exact hW
  · rw [show (m + 7 * W + f - m) % 7 = f by omega]; exact f3
  · rcases Int.lt_or_le ((d - m) / 7) (W + n) with c | c
    · have e := st_gap0 hn hW p1 (by omega) c
      have := f4 ((d - m) % 7) (by omega) (by omega)
      rw [this] at p2
      cases p2
    · have := h3 (by omega) ((d - m) % 7) (by omega) (by omega)
      rw [this] at p2
      cases p2
/-! counting -/
theorem st_succ {n x : Int} (hn : 0 < n) : (x + 1) / n = x / n + (if (x + 1) % n = 0 then 1 else 0) := by
  have l := st_lo (a := x) hn
  have h := st_hi (a := x) hn
  have l1 := st_lo (a := x + 1) hn
  have h1 := st_hi (a := x + 1) hn
  by_cases c : (x + 1) % n = 0
  · rw [if_pos c]
    have e := st_dvd c
    rcases Int.lt_trichotomy ((x + 1) / n) (x / n + 1) with q | q | q
    · have := st_mul hn q; rw [Int.add_mul, Int.one_mul] at this; omega
    · exact q
    · have := st_mul hn q; rw [Int.add_mul, Int.one_mul] at this; omega
  · rw [if_neg c, Int.add_zero]
    have e := Int.ediv_mul_add_emod (x + 1) n
    have e0 := Int.emod_nonneg (x + 1) (Int.ne_of_gt hn)
    rcases Int.lt_trichotomy ((x + 1) / n) (x / n) with q | q | q
    · have := st_mul hn q; omega
    · exact q
    · have := st_mul hn q; omega
theorem dc_up {n s : Int} (hn : 0 < n) (k : Nat) : cn (onD n s) s (s + k + 1) = (k : Int) / n + 1 := by
  induction k with
  | zero =>
    rw [show s + ((0 : Nat) : Int) + 1 = s + 1 by omega, cn_yes (Int.le_refl s) ⟨Int.le_refl s, by rw [Int.sub_self]; exact Int.zero_emod n⟩, cn_le (Int.le_refl s)]
    show (0 : Int) + 1 = (0 : Int) / n + 1
    rw [Int.zero_ediv]
  | succ k ih =>
    have z := st_succ (n := n) (x := (k : Int)) hn
    rw [show s + ((k + 1 : Nat) : Int) + 1 = s + k + 1 + 1 by omega, show ((k + 1 : Nat) : Int) = (k : Int) + 1 by omega, z]
    by_cases c : ((k : Int) + 1) % n = 0
    · rw [cn_yes (by omega) ⟨by omega, by rw [show s + k + 1 - s = (k : Int) + 1 by omega]; exact c⟩, ih, if_pos c]
    · rw [cn_no (by omega) (fun ⟨_, q⟩ => c (by rw [show s + k + 1 - s = (k : Int) + 1 by omega] at q; exact q)), ih, if_neg c, Int.add_zero]
/-! ===== how many, by weeks ===== -/
def bcU (v : Int) : Nat → Int
  | 0 => 0
  | i + 1 => bcU v i + (if wb v i = true then 1 else 0)
theorem wc_part {n m v W : Int} (h : W % n = 0) (i : Nat) : i ≤ 7 → cn (pW n m v) (m + 7 * W) (m + 7 * W + i) = bcU v i := by
  induction i with
  | zero => intro _; exact cn_le (by omega)
  | succ i ih =>
    intro hi
    rw [show m + 7 * W + ((i + 1 : Nat) : Int) = m + 7 * W + i + 1 by omega]
    have e1 : (m + 7 * W + (i : Int) - m) / 7 = W := by omega
    have e2 : (m + 7 * W + (i : Int) - m) % 7 = (i : Int) := by omega
    show _ = bcU v i + _
    by_cases c : wb v (i : Int) = true
    · rw [cn_yes (by omega) ⟨by rw [e1]; exact h, by rw [e2]; exact c⟩, ih (by omega), if_pos c]
    · rw [cn_no (by omega) (fun ⟨_, q⟩ => c (by rw [e2] at q; exact q)), ih (by omega), if_neg c, Int.add_zero]
theorem wc_zero {n m v W : Int} (h : W % n ≠ 0) {i : Int} (hi : i ≤ 7) : cn (pW n m v) (m + 7 * W) (m + 7 * W + i) = 0 :=
  cn_none (fun d g1 g2 ⟨p1, _⟩ => h (by rw [show (d - m) / 7 = W by omega] at p1; exact p1))
theorem wc_whole {n m v : Int} (hn : 0 < n) (W : Nat) : cn (pW n m v) m (m + 7 * W) = ((W : Int) + n - 1) / n * bcU v 7 := by
  induction W with
  | zero =>
    rw [cn_le (by omega)]
    have e : (((0 : Nat) : Int) + n - 1) / n = 0 := Int.ediv_eq_zero_of_lt (by omega) (by omega)
    rw [e, Int.zero_mul]
  | succ W ih =>
    have z := st_succ (n := n) (x := (W : Int) + n - 1) hn
    have e1 : ((W : Int) + n - 1 + 1) % n = (W : Int) % n := by rw [show (W : Int) + n - 1 + 1 = W + n by omega, Int.add_emod, Int.emod_self, Int.add_zero, Int.emod_emod]
    rw [e1] at z
    rw [show ((W + 1 : Nat) : Int) + n - 1 = (W : Int) + n - 1 + 1 by omega, z, cn_add (b := m + 7 * W) (by omega) (by omega), ih, Int.add_mul]
    congr 1
    by_cases c : (W : Int) % n = 0
    · rw [if_pos c, Int.one_mul, show m + 7 * ((W + 1 : Nat) : Int) = m + 7 * (W : Int) + ((7 : Nat) : Int) by omega]
      exact wc_part c 7 (Nat.le_refl 7)
    · rw [if_neg c, Int.zero_mul, show m + 7 * ((W + 1 : Nat) : Int) = m + 7 * (W : Int) + 7 by omega]
      exact wc_zero c (by omega)
/-- daysUpTo of the weeks' rule -/
theorem wc_upto {n m v d : Int} (hn : 0 < n) (hd : m ≤ d) : cn (pW n m v) m (d + 1) = ((d - m) / 7 + n - 1) / n * bcU v 7 + (if ((d - m) / 7) % n = 0 then bcU v (((d - m) % 7).toNat + 1) else 0) := by
  have a := wc_whole (m := m) (v := v) hn ((d - m) / 7).toNat
  rw [show ((((d - m) / 7).toNat : Nat) : Int) = (d - m) / 7 by omega] at a
  rw [cn_add (b := m + 7 * ((d - m) / 7)) (by omega) (by omega), a]
  congr 1
  by_cases c : ((d - m) / 7) % n = 0
  · rw [if_pos c, show d + 1 = m + 7 * ((d - m) / 7) + ((((d - m) % 7).toNat + 1 : Nat) : Int) by omega]
    exact wc_part c _ (by omega)
  · rw [if_neg c, show d + 1 = m + 7 * ((d - m) / 7) + ((d - m) % 7 + 1) by omega]
    exact wc_zero c (by omega)
theorem bcU_b (v : Int) (i : Nat) : 0 ≤ bcU v i ∧ bcU v i ≤ i := by
  induction i with
  | zero => exact ⟨Int.le_refl 0, Int.le_refl 0⟩
  | succ i ih =>
    show 0 ≤ bcU v i + _ ∧ bcU v i + _ ≤ _
    split <;> omega
/-- two counts of what is alike -/
theorem cn_cg {p q : Int → Prop} {a b : Int} (h : ∀ d : Int, a ≤ d → d < b → (p d ↔ q d)) : cn p a b = cn q a b := by
  rcases Int.lt_or_le b a with c | c
  · rw [cn_le (by omega), cn_le (by omega)]
  · have k : ∀ n : Nat, (n : Int) ≤ b - a → cn p a (a + n) = cn q a (a + n) := by
      intro n
      induction n with
      | zero => intro _; rw [cn_le (by omega), cn_le (by omega)]
      | succ n ih =>
        intro hn
        have e := h (a + n) (by omega) (by omega)
        rw [show a + ((n + 1 : Nat) : Int) = a + n + 1 by omega]
        rcases Classical.em (p (a + n)) with c | c
        · rw [cn_yes (by omega) c, cn_yes (by omega) (e.mp c), ih (by omega)]
        · rw [cn_no (by omega) c, cn_no (by omega) (fun z => c (e.mpr z)), ih (by omega)]
    have := k (b - a).toNat (by omega)
    rw [show a + (((b - a).toNat : Nat) : Int) = b by omega] at this
    exact this
/-! ===== keys ===== -/
/-- d is a key: from low on, up to hi, the rule is on, and fewer than 'most' lie ahead of it -/
def Ky (p : Int → Prop) (low hi most d : Int) : Prop := low ≤ d ∧ d ≤ hi ∧ p d ∧ (most < 0 ∨ cn p low d < most)
/-- the class's bounds: first and last key (-1, -1: none) -/
def Bd (K : Int → Prop) (fk lk : Int) : Prop := (fk = -1 ∧ lk = -1 ∧ ∀ d : Int, ¬ K d) ∨ (0 ≤ fk ∧ fk ≤ lk ∧ lk ≤ 36524 ∧ K fk ∧ K lk ∧ ∀ d : Int, K d → fk ≤ d ∧ d ≤ lk)
theorem cn_up {p : Int → Prop} {a b c : Int} (h : b ≤ c) : cn p a b ≤ cn p a c := by
  rcases Int.lt_or_le b a with q | q
  · rw [cn_le (a := a) (b := b) (by omega)]; exact cn_pos.1
  · rw [cn_add (b := b) q h]
    have := (cn_pos (p := p) (a := b) (b := c)).1
    omega
theorem cn_lt {p : Int → Prop} {a b c : Int} (h : a ≤ b) (g : b < c) (hp : p b) : cn p a b < cn p a c := by
  have e := cn_yes h hp
  have u := cn_up (p := p) (a := a) (b := b + 1) (c := c) (by omega)
  omega
/-- no bound by times: the first day on from low, the last one up to hi -/
theorem bd_until {p : Int → Prop} {low hi most fk lk : Int} (hm : most < 0) (h0 : 0 ≤ low) (hh : hi ≤ 36524) (h1 : Fst p low fk) (h2 : Lst p hi lk) : ((fk = -1 ∨ lk < fk) → ∀ d : Int, ¬ Ky p low hi most d) ∧ (fk ≠ -1 → fk ≤ lk → Bd (Ky p low hi most) fk lk) := by
  constructor
  · intro c d ⟨k1, k2, k3, k4⟩
    rcases h1 with ⟨a1, a2, a3, a4⟩ | ⟨a1, a2⟩
    · have f1 : fk ≤ d := by
        rcases Int.lt_or_le d fk with q | q
        · exact absurd k3 (a4 d k1 q)
        · exact q
      rcases h2 with ⟨b1, b2, b3, b4⟩ | ⟨b1, b2⟩
      · have f2 : d ≤ lk := by
          rcases Int.lt_or_le lk d with q | q
          · exact absurd k3 (b4 d q k2)
          · exact q
        omega
      · exact absurd k3 (b2 d (by omega) k2)
    · exact absurd k3 (a2 d k1 (by omega))
  · intro c1 c2
    rcases h1 with ⟨a1, a2, a3, a4⟩ | ⟨a1, a2⟩
    · rcases h2 with ⟨b1, b2, b3, b4⟩ | ⟨b1, b2⟩
      · refine Or.inr ⟨by omega, c2, by omega, ⟨a1, by omega, a3, Or.inl hm⟩, ⟨by omega, b2, b3, Or.inl hm⟩, fun d ⟨k1, k2, k3, k4⟩ => ?_⟩
        constructor
        · rcases Int.lt_or_le d fk with q | q
          · exact absurd k3 (a4 d k1 q)
          · exact q
        · rcases Int.lt_or_le lk d with q | q
          · exact absurd k3 (b4 d q k2)
          · exact q
      · omega
    · exact absurd a1 c1
/-- bound by times: the last is the most-th one, or no further one is there -/
theorem bd_times {p : Int → Prop} {low most fk lk : Int} (hm : 0 < most) (h0 : 0 ≤ low) (h1 : Fst p low fk) (hf : fk ≠ -1) (h2 : fk ≤ lk) (h3 : lk ≤ 36524) (h4 : p lk) (h5 : cn p low (lk + 1) ≤ most) (h6 : cn p low (lk + 1) = most ∨ ∀ d : Int, lk < d → d ≤ 36524 → ¬ p d) : Bd (Ky p low 36524 most) fk lk := by
  rcases h1 with ⟨a1, a2, a3, a4⟩ | ⟨a1, a2⟩
  · have c0 : cn p low fk = 0 := cn_none (fun d g1 g2 => a4 d g1 g2)
    have cl := cn_lt (p := p) (a := low) (b := lk) (c := lk + 1) (by omega) (by omega) h4
    refine Or.inr ⟨by omega, h2, h3, ⟨a1, a2, a3, Or.inr (by omega)⟩, ⟨by omega, h3, h4, Or.inr (by omega)⟩, fun d ⟨k1, k2, k3, k4⟩ => ?_⟩
    constructor
    · rcases Int.lt_or_le d fk with q | q
      · exact absurd k3 (a4 d k1 q)
      · exact q
    · rcases Int.lt_or_le lk d with q | q
      · rcases h6 with e | e
        · have u := cn_up (p := p) (a := low) (b := lk + 1) (c := d) (by omega)
          omega
        · exact absurd k3 (e d q k2)
      · exact q
  · exact absurd a1 hf
theorem bd_notimes {p : Int → Prop} {low most : Int} (h1 : Fst p low (-1)) (h0 : 0 ≤ low) : Bd (Ky p low 36524 most) (-1) (-1) := by
  refine Or.inl ⟨rfl, rfl, fun d ⟨k1, k2, k3, k4⟩ => ?_⟩
  rcases h1 with ⟨a1, a2, a3, a4⟩ | ⟨a1, a2⟩
  · omega
  · exact a2 d k1 k2 k3
/-- between the bounds, the keys are the days on -/
theorem Bd.iff {p : Int → Prop} {low hi most fk lk d : Int} (h : Bd (Ky p low hi most) fk lk) (hf : fk ≠ -1) (h1 : fk ≤ d) (h2 : d ≤ lk) : Ky p low hi most d ↔ p d := by
  rcases h with ⟨a, b, c⟩ | ⟨a, b, c, f1, f2, g⟩
  · exact absurd a hf
  · refine ⟨fun k => k.2.2.1, fun k => ⟨by have := f1.1; omega, by have := f2.2.1; omega, k, ?_⟩⟩
    rcases f2.2.2.2 with q | q
    · exact Or.inl q
    · have u := cn_up (p := p) (a := low) (b := d) (c := lk) h2
      exact Or.inr (by omega)
/-- a step of lastOfTimes -/
theorem lt_step {p : Int → Prop} {low last r i : Int} (h0 : low ≤ last) (hp : p last) (hc : cn p low (last + 1) = i) (h : Fst p (last + 1) r) (hr : r ≠ -1) : last < r ∧ r ≤ 36524 ∧ p r ∧ cn p low (r + 1) = i + 1 := by
  rcases h with ⟨a1, a2, a3, a4⟩ | ⟨a1, a2⟩
  · have e := cn_yes (p := p) (a := low) (b := r) (by omega) a3
    have e2 := cn_add (p := p) (a := low) (b := last + 1) (c := r) (by omega) (by omega)
    have e3 := cn_none (p := p) (a := last + 1) (b := r) (fun d g1 g2 => a4 d g1 g2)
    exact ⟨by omega, a2, a3, by omega⟩
  · exact absurd a1 hr
/-! the reference's row of keys: all of them, in order -/
def KL (K : Int → Prop) (k : Int → Int) (n : Int) : Prop := 0 ≤ n ∧ (∀ i : Int, 0 ≤ i → i < n → K (k i)) ∧ (∀ i j : Int, 0 ≤ i → i < j → j < n → k i < k j) ∧ ∀ d : Int, K d → ∃ i : Int, 0 ≤ i ∧ i < n ∧ k i = d
theorem KL.first {K : Int → Prop} {k : Int → Int} {n fk lk : Int} (h : KL K k n) (b : Bd K fk lk) : (n = 0 ∧ fk = -1 ∧ lk = -1) ∨ (0 < n ∧ fk = k 0 ∧ lk = k (n - 1)) := by
  obtain ⟨h0, h1, h2, h3⟩ := h
  rcases b with ⟨b1, b2, b3⟩ | ⟨b1, b2, b3, b4, b5, b6⟩
  · refine Or.inl ⟨?_, b1, b2⟩
    rcases Int.lt_or_le 0 n with c | c
    · exact absurd (h1 0 (by omega) c) (b3 _)
    · omega
  · obtain ⟨i, i0, i1, i2⟩ := h3 fk b4
    obtain ⟨j, j0, j1, j2⟩ := h3 lk b5
    refine Or.inr ⟨by omega, ?_, ?_⟩
    · have := b6 _ (h1 0 (by omega) (by omega))
      rcases Int.lt_or_le 0 i with c | c
      · have := h2 0 i (by omega) c i1; omega
      · have e : i = 0 := by omega
        rw [← e, i2]
    · have := b6 _ (h1 (n - 1) (by omega) (by omega))
      rcases Int.lt_or_le j (n - 1) with c | c
      · have := h2 j (n - 1) j0 c (by omega); omega
      · have e : j = n - 1 := by omega
        rw [← e, j2]
