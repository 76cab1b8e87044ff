/-! ===== keys asked ===== -/
theorem Bd.rg {K : Int → Prop} {fk lk d : Int} (h : Bd K fk lk) (k : K d) : 0 ≤ fk ∧ fk ≤ d ∧ d ≤ lk ∧ lk ≤ 36524 := by
  rcases h with ⟨a, b, c⟩ | ⟨a, b, c, f1, f2, g⟩
  · exact absurd k (c d)
  · have := g d k; omega
/-- the class's keyFrom -/
theorem kf_none {K : Int → Prop} {fk lk a : Int} (h : Bd K fk lk) (c : fk = -1 ∨ lk < a) : Fst K a (-1) :=
  Or.inr ⟨rfl, fun d g1 g2 k => by have := h.rg k; omega⟩
theorem kf_first {K : Int → Prop} {fk lk a : Int} (h : Bd K fk lk) (hf : fk ≠ -1) (c : a ≤ fk) : Fst K a fk := by
  rcases h with ⟨x, y, z⟩ | ⟨x, y, z, f1, f2, g⟩
  · exact absurd x hf
  · exact Or.inl ⟨c, by omega, f1, fun d g1 g2 k => by have := g d k; omega⟩
theorem kf_rule {p : Int → Prop} {low hi most fk lk a r : Int} (h : Bd (Ky p low hi most) fk lk) (hf : fk ≠ -1) (c1 : fk < a) (c2 : a ≤ lk) (hr : Fst p a r) : Fst (Ky p low hi most) a r := by
  have b := h
  rcases b with ⟨x, y, z⟩ | ⟨x, y, z, f1, f2, g⟩
  · exact absurd x hf
  · have kl : p lk := f2.2.2.1
    rcases hr with ⟨a1, a2, a3, a4⟩ | ⟨a1, a2⟩
    · have e : r ≤ lk := by
        rcases Int.lt_or_le lk r with q | q
        · exact absurd kl (a4 lk c2 q)
        · exact q
      exact Or.inl ⟨a1, a2, (h.iff hf (by omega) e).mpr a3, fun d g1 g2 k => a4 d g1 g2 k.2.2.1⟩
    · exact absurd kl (a2 lk c2 z)
/-- the class's keyTo -/
theorem kt_none {K : Int → Prop} {fk lk b : Int} (h : Bd K fk lk) (c : fk = -1 ∨ b < fk) : Lst K b (-1) :=
  Or.inr ⟨rfl, fun d g1 g2 k => by have := h.rg k; omega⟩
theorem kt_last {K : Int → Prop} {fk lk b : Int} (h : Bd K fk lk) (hf : fk ≠ -1) (c : lk ≤ b) : Lst K b lk := by
  rcases h with ⟨x, y, z⟩ | ⟨x, y, z, f1, f2, g⟩
  · exact absurd x hf
  · exact Or.inl ⟨by omega, c, f2, fun d g1 g2 k => by have := g d k; omega⟩
theorem kt_rule {p : Int → Prop} {low hi most fk lk b r : Int} (h : Bd (Ky p low hi most) fk lk) (hf : fk ≠ -1) (c1 : fk ≤ b) (c2 : b < lk) (hr : Lst p b r) : Lst (Ky p low hi most) b r := by
  have q := h
  rcases q with ⟨x, y, z⟩ | ⟨x, y, z, f1, f2, g⟩
  · exact absurd x hf
  · have kf : p fk := f1.2.2.1
    rcases hr with ⟨a1, a2, a3, a4⟩ | ⟨a1, a2⟩
    · have e : fk ≤ r := by
        rcases Int.lt_or_le r fk with q | q
        · exact absurd kf (a4 fk q c1)
        · exact q
      exact Or.inl ⟨a1, a2, (h.iff hf e (by omega)).mpr a3, fun d g1 g2 k => a4 d g1 g2 k.2.2.1⟩
    · exact absurd kf (a2 fk x c1)
/-- the class's keysIn -/
theorem kn_in {p : Int → Prop} {low hi most fk lk a b : Int} (h : Bd (Ky p low hi most) fk lk) (hf : fk ≠ -1) : cn (Ky p low hi most) a (b + 1) = cn p (max a fk) (min b lk + 1) := by
  have r := fun d k => h.rg (d := d) k
  rcases Int.lt_or_le (min b lk) (max a fk) with c | c
  · rw [cn_le (p := p) (by omega), cn_none (fun d g1 g2 k => by have := r d k; omega)]
  · rw [cn_add (b := max a fk) (by omega) (show max a fk ≤ b + 1 by omega), cn_add (a := max a fk) (b := min b lk + 1) (by omega) (by omega)]
    rw [cn_none (a := a) (fun d g1 g2 k => by have := r d k; omega), cn_none (a := min b lk + 1) (fun d g1 g2 k => by have := r d k; omega)]
    rw [cn_cg (p := Ky p low hi most) (q := p) (fun d g1 g2 => h.iff hf (by omega) (by omega))]
    omega
theorem kn_no {K : Int → Prop} {fk lk a b : Int} (h : Bd K fk lk) (c : fk = -1 ∨ min b lk < max a fk) : cn K a (b + 1) = 0 :=
  cn_none (fun d g1 g2 k => by have := h.rg k; omega)
/-- the reference: the first of the row that is not below a -/
theorem KL.from {K : Int → Prop} {k : Int → Int} {n a i : Int} (h : KL K k n) (hr : ∀ d : Int, K d → d ≤ 36524) (i0 : 0 ≤ i) (i1 : i < n) (c : a ≤ k i) (pr : ∀ j : Int, 0 ≤ j → j < i → k j < a) : Fst K a (k i) := by
  obtain ⟨h0, h1, h2, h3⟩ := h
  refine Or.inl ⟨c, hr _ (h1 i i0 i1), h1 i i0 i1, fun d g1 g2 kd => ?_⟩
  obtain ⟨j, j0, j1, j2⟩ := h3 d kd
  rcases Int.lt_trichotomy j i with q | q | q
  · have := pr j j0 q; omega
  · subst q; omega
  · have := h2 i j i0 q j1; omega
theorem KL.fromNo {K : Int → Prop} {k : Int → Int} {n a : Int} (h : KL K k n) (pr : ∀ j : Int, 0 ≤ j → j < n → k j < a) : Fst K a (-1) := by
  refine Or.inr ⟨rfl, fun d g1 g2 kd => ?_⟩
  obtain ⟨j, j0, j1, j2⟩ := h.2.2.2 d kd
  have := pr j j0 j1
  omega
def kAt (k : Int → Int) (n j : Int) : Int := if j < n then k j else 36525
theorem KL.step {K : Int → Prop} {k : Int → Int} {n a b j : Int} (h : KL K k n) (hr : ∀ d : Int, K d → d ≤ 36524) (hb : b ≤ 36524) (j0 : 0 ≤ j) (j1 : j < n) : cn K a (min (kAt k n (j + 1)) (b + 1)) = cn K a (min (k j) (b + 1)) + (if a ≤ k j ∧ k j ≤ b then 1 else 0) := by
  obtain ⟨h0, h1, h2, h3⟩ := h
  have kj := h1 j j0 j1
  have rj := hr _ kj
  have nx : k j < kAt k n (j + 1) := by
    unfold kAt
    split
    · exact h2 j (j + 1) j0 (by omega) (by assumption)
    · omega
  have uq : ∀ d : Int, k j < d → d < kAt k n (j + 1) → ¬ K d := by
    intro d g1 g2 kd
    obtain ⟨i, i0, i1, i2⟩ := h3 d kd
    rcases Int.lt_trichotomy i j with q | q | q
    · have := h2 i j i0 q j1; omega
    · subst q; omega
    · rcases Int.lt_or_le (j + 1) i with q2 | q2
      · have := h2 (j + 1) i (by omega) q2 i1
        unfold kAt at g2
        rw [if_pos (by omega)] at g2
        omega
      · have e : i = j + 1 := by omega
        subst e
        unfold kAt at g2
        rw [if_pos i1] at g2
        omega
  by_cases c : a ≤ k j ∧ k j ≤ b
  · rw [if_pos c, show min (k j) (b + 1) = k j by omega, cn_add (b := k j) c.1 (by omega), cn_one (a := k j) (r := k j) (by omega) (by omega) kj (fun d g1 g2 kd => by
      rcases Int.lt_or_le (k j) d with q | q
      · exact absurd kd (uq d q (by omega))
      · omega)]
  · rw [if_neg c, Int.add_zero]
    rcases Int.lt_or_le b (k j) with q | q
    · rw [show min (k j) (b + 1) = b + 1 by omega, show min (kAt k n (j + 1)) (b + 1) = b + 1 by omega]
    · rw [cn_le (b := min (k j) (b + 1)) (by omega)]
      exact cn_none (fun d g1 g2 kd => uq d (by omega) (by omega) kd)
/-! ===== the reference's words for a rule ===== -/
theorem rk_mo {ys ms js s y m j d : Int} (h : DV ys ms js s) (g : DV y m j d) : mo d - mo s = 12 * (y - ys) + m - ms := by
  have a := (mo_DV h).1
  have b := (mo_DV g).1
  omega
theorem rk_on {k n s v w d ys ms js y m j : Int} (hk : k = 3 ∨ k = 7) (h : DV ys ms js s) (g : DV y m j d) (hd : s ≤ d) : onM k n s v w d ↔ ((12 * (y - ys) + m - ms) % n = 0 ∧ j = v) := by
  have e := rk_mo h g
  obtain ⟨b1, b2, b3⟩ := mo_DV g
  have q : dIn k v w (mo d) = cyS (mo d) + v - 1 := by unfold dIn; rcases hk with rfl | rfl <;> simp
  unfold onM
  rw [e, q]
  constructor
  · rintro ⟨p1, p2, p3⟩; exact ⟨p2, by omega⟩
  · rintro ⟨p1, p2⟩; exact ⟨hd, p1, by omega⟩
theorem rk_end {n s v w d ys ms js y m j : Int} (h : DV ys ms js s) (g : DV y m j d) (hd : s ≤ d) : onM 4 n s v w d ↔ ((12 * (y - ys) + m - ms) % n = 0 ∧ j = dI y m - v + 1) := by
  have e := rk_mo h g
  obtain ⟨b1, b2, b3⟩ := mo_DV g
  have q : dIn 4 v w (mo d) = cyS (mo d + 1) - v := by unfold dIn; simp
  unfold onM
  rw [e, q]
  constructor
  · rintro ⟨p1, p2, p3⟩; exact ⟨p2, by omega⟩
  · rintro ⟨p1, p2⟩; exact ⟨hd, p1, by omega⟩
theorem rk_nth {n s v w d ys ms js y m j : Int} (h : DV ys ms js s) (g : DV y m j d) (hd : s ≤ d) (w0 : 0 ≤ w) (w6 : w ≤ 6) : onM 5 n s v w d ↔ ((12 * (y - ys) + m - ms) % n = 0 ∧ (d + 5) % 7 = w ∧ (j - 1) / 7 + 1 = v) := by
  have e := rk_mo h g
  obtain ⟨b1, b2, b3⟩ := mo_DV g
  have q : dIn 5 v w (mo d) = cyS (mo d) + (w - (cyS (mo d) + 5) % 7 + 7) % 7 + 7 * (v - 1) := by unfold dIn wd; simp
  unfold onM
  rw [e, q]
  constructor
  · rintro ⟨p1, p2, p3⟩; exact ⟨p2, by omega, by omega⟩
  · rintro ⟨p1, p2, p3⟩; exact ⟨hd, p1, by omega⟩
theorem rk_last {n s v u d ys ms js y m j : Int} (h : DV ys ms js s) (g : DV y m j d) (hd : s ≤ d) (w0 : 0 ≤ v) (w6 : v ≤ 6) : onM 6 n s u v d ↔ ((12 * (y - ys) + m - ms) % n = 0 ∧ (d + 5) % 7 = v ∧ dI y m < j + 7) := by
  have e := rk_mo h g
  obtain ⟨b1, b2, b3⟩ := mo_DV g
  have r := g.2.2.2.2.2.1
  have q : dIn 6 u v (mo d) = cyS (mo d + 1) - 1 - ((cyS (mo d + 1) - 1 + 5) % 7 - v + 7) % 7 := by unfold dIn wd; simp
  unfold onM
  rw [e, q]
  constructor
  · rintro ⟨p1, p2, p3⟩; exact ⟨p2, by omega, by omega⟩
  · rintro ⟨p1, p2, p3⟩; exact ⟨hd, p1, by omega⟩
theorem rk_year {n s w d ys ms js y m j : Int} (hn : 0 < n) (h : DV ys ms js s) (g : DV y m j d) (hd : s ≤ d) : onM 7 (12 * n) s (s - cyS (mo s) + 1) w d ↔ ((y - ys) % n = 0 ∧ m = ms ∧ j = js) := by
  have z := rk_on (k := 7) (n := 12 * n) (v := s - cyS (mo s) + 1) (w := w) (Or.inr rfl) h g hd
  have b2 := (mo_DV h).2.1
  have t := yr_mod (yd := y) (ys := ys) (md := m) (ms := ms) hn g.2.2.1 g.2.2.2.1 h.2.2.1 h.2.2.2.1
  rw [z, show 12 * (y - ys) + m - ms = 12 * (y - ys) + (m - ms) by omega, ← t]
  constructor
  · rintro ⟨⟨p1, p2⟩, p3⟩; exact ⟨p1, p2, by omega⟩
  · rintro ⟨p1, p2, p3⟩; exact ⟨⟨p1, p2⟩, by omega⟩
/-- a row's rule: kind, every, start, number, weekday, as the reference keeps them -/
def onK (k n s v w : Int) : Int → Prop := fun d => if k = 0 then d = s else if k = 1 then onD n s d else if k = 2 then onW n s v d else if k = 7 then onM 7 (12 * n) s (s - cyS (mo s) + 1) w d else if k = 6 then onM 6 n s 0 v d else onM k n s v w d
theorem onM_6 {n s v v' w d : Int} : onM 6 n s v w d ↔ onM 6 n s v' w d := by unfold onM dIn; simp
theorem onK_lo {k n s v w d : Int} (h : onK k n s v w d) : s ≤ d := by
  unfold onK at h
  split at h
  · omega
  · split at h
    · exact h.1
    · split at h
      · exact h.1
      · split at h
        · exact h.1
        · split at h
          · exact h.1
          · exact h.1
/-! ===== the reference lays keys: a part of the row ===== -/
def KP (K : Int → Prop) (k : Int → Int) (n d : Int) : Prop := 0 ≤ n ∧ (∀ i : Int, 0 ≤ i → i < n → K (k i) ∧ k i < d) ∧ (∀ i j : Int, 0 ≤ i → i < j → j < n → k i < k j) ∧ ∀ x : Int, K x → x < d → ∃ i : Int, 0 ≤ i ∧ i < n ∧ k i = x
theorem KP.nil {p : Int → Prop} {low hi most : Int} (k : Int → Int) : KP (Ky p low hi most) k 0 low := ⟨Int.le_refl 0, fun i h0 h1 => by omega, fun i j h0 h1 h2 => by omega, fun x kx h => by have := kx.1; omega⟩
theorem KP.push {K : Int → Prop} {k k' : Int → Int} {n d : Int} (h : KP K k n d) (hd : K d) (e1 : k' n = d) (e2 : ∀ i : Int, 0 ≤ i → i < n → k' i = k i) : KP K k' (n + 1) (d + 1) := by
  obtain ⟨h0, h1, h2, h3⟩ := h
  refine ⟨by omega, fun i i0 i1 => ?_, fun i j i0 ij j1 => ?_, fun x kx hx => ?_⟩
  · rcases Int.lt_or_le i n with c | c
    · rw [e2 i i0 c]; have := h1 i i0 c; exact ⟨this.1, by omega⟩
    · rw [show i = n by omega, e1]; exact ⟨hd, by omega⟩
  · rcases Int.lt_or_le j n with c | c
    · rw [e2 i i0 (by omega), e2 j (by omega) c]; exact h2 i j i0 ij c
    · rw [show j = n by omega, e1, e2 i i0 (by omega)]; exact (h1 i i0 (by omega)).2
  · rcases Int.lt_or_le x d with c | c
    · obtain ⟨i, i0, i1, i2⟩ := h3 x kx c
      exact ⟨i, i0, by omega, by rw [e2 i i0 i1]; exact i2⟩
    · exact ⟨n, h0, by omega, by omega⟩
theorem KP.skip {K : Int → Prop} {k : Int → Int} {n d : Int} (h : KP K k n d) (hd : ¬ K d) : KP K k n (d + 1) := by
  obtain ⟨h0, h1, h2, h3⟩ := h
  refine ⟨h0, fun i i0 i1 => ⟨(h1 i i0 i1).1, by have := (h1 i i0 i1).2; omega⟩, h2, fun x kx hx => ?_⟩
  rcases Int.lt_or_le x d with c | c
  · exact h3 x kx c
  · exact absurd (show K d by rw [show d = x by omega]; exact kx) hd
theorem KP.done {p : Int → Prop} {low hi most n d : Int} {k : Int → Int} (h : KP (Ky p low hi most) k n d) (hn : n = cn p low d) (hx : hi < d ∨ (0 ≤ most ∧ most ≤ n)) : KL (Ky p low hi most) k n := by
  obtain ⟨h0, h1, h2, h3⟩ := h
  refine ⟨h0, fun i i0 i1 => (h1 i i0 i1).1, h2, fun x kx => ?_⟩
  rcases Int.lt_or_le x d with c | c
  · exact h3 x kx c
  · exfalso
    obtain ⟨k1, k2, k3, k4⟩ := kx
    rcases hx with e | ⟨e1, e2⟩
    · omega
    · have := cn_up (p := p) (a := low) (b := d) (c := x) c
      omega
/-- how it goes on at d, while n keys lie ahead of it -/
theorem ky_at {p : Int → Prop} {low hi most d : Int} (h1 : low ≤ d) (h2 : d ≤ hi) (h3 : most < 0 ∨ cn p low d < most) : Ky p low hi most d ↔ p d := ⟨fun k => k.2.2.1, fun k => ⟨h1, h2, k, h3⟩⟩
/-- split: a key ahead of the day, and one from it on -/
theorem KL.ahead {K : Int → Prop} {k : Int → Int} {n a i : Int} (h : KL K k n) (i0 : 0 ≤ i) (i1 : i ≤ n) (lo : ∀ j : Int, 0 ≤ j → j < i → k j < a) (hi : i = n ∨ a ≤ k i) : (i = 0 ↔ ∀ d : Int, d < a → ¬ K d) ∧ (i = n ↔ ∀ d : Int, a ≤ d → ¬ K d) := by
  obtain ⟨h0, h1, h2, h3⟩ := h
  refine ⟨⟨fun e d hd kd => ?_, fun z => ?_⟩, ⟨fun e d hd kd => ?_, fun z => ?_⟩⟩
  · obtain ⟨j, j0, j1, j2⟩ := h3 d kd
    rcases hi with q | q
    · omega
    · rcases Int.lt_or_le 0 j with c | c
      · have := h2 0 j (by omega) c j1
        rw [e] at q
        omega
      · have e2 : j = 0 := by omega
        rw [e2] at j2
        rw [e] at q
        omega
  · rcases Int.lt_or_le 0 i with c | c
    · exact absurd (h1 0 (by omega) (by omega)) (z _ (lo 0 (by omega) c))
    · omega
  · obtain ⟨j, j0, j1, j2⟩ := h3 d kd
    have := lo j j0 (by omega)
    omega
  · rcases hi with q | q
    · exact q
    · rcases Int.lt_or_le i n with c | c
      · exact absurd (h1 i i0 c) (z _ q)
      · omega
theorem cn_zero {p : Int → Prop} {a b : Int} : cn p a b = 0 ↔ ∀ d : Int, a ≤ d → d < b → ¬ p d := by
  refine ⟨fun e d h1 h2 hp => ?_, fun h => cn_none h⟩
  have u := cn_lt (p := p) (a := a) (b := d) (c := b) h1 h2 hp
  have v := (cn_pos (p := p) (a := a) (b := d)).1
  omega
/-! ===== a rule of the class speaks of the reference's words (kind, every, start, number, weekday) ===== -/
def nvC (k s v : Int) : Int := if k = 7 then s - cyS (mo s) + 1 else if k = 6 then 0 else v
def nwC (k v w : Int) : Int := if k = 6 then v else if k = 5 then w else 0
def stC (k n : Int) : Int := if k = 7 then 12 * n else n
def okK (k v w : Int) : Prop := (k = 3 ∧ 1 ≤ v ∧ v ≤ 31 ∧ w = -1) ∨ (k = 4 ∧ 1 ≤ v ∧ v ≤ 28 ∧ w = -1) ∨ (k = 5 ∧ 1 ≤ v ∧ v ≤ 5 ∧ 0 ≤ w ∧ w ≤ 6) ∨ (k = 6 ∧ 0 ≤ v ∧ v ≤ 6 ∧ w = -1) ∨ (k = 7 ∧ v = 0 ∧ w = -1)
def RuK (f : Nat → va_E) (r : Nat) (k n s v w : Int) : Prop :=
  (fI f r 0 = k ∧ fI f r 1 = n ∧ fI f r 2 = s ∧ 0 ≤ s ∧ s ≤ 36524) ∧
  ((Ob f r 3 ∧ k = 0 ∧ n = 0 ∧ v = 0 ∧ w = -1) ∨
   (Ob f r 1 ∧ k = 1 ∧ 1 ≤ n ∧ n ≤ 999 ∧ v = 0 ∧ w = -1 ∧ fI f r 3 = n) ∨
   (Ob f r 6 ∧ k = 2 ∧ 1 ≤ n ∧ n ≤ 999 ∧ 1 ≤ v ∧ v ≤ 127 ∧ w = -1 ∧ fI f r 3 = n ∧ fI f r 4 = v ∧ fI f r 5 = s - wd s) ∨
   (Ob f r 2 ∧ okK k v w ∧ 1 ≤ n ∧ n ≤ 999 ∧ fI f r 3 = stC k n ∧ fI f r 4 = mo s ∧ fI f r 5 = nvC k s v ∧ fI f r 6 = nwC k v w))
theorem RuK.rl {f : Nat → va_E} {r : Nat} {k n s v w : Int} (h : RuK f r k n s v w) : Rl f r := by
  rcases h.2 with ⟨o, _⟩ | ⟨o, _⟩ | ⟨o, _⟩ | ⟨o, _⟩
  · exact Or.inr (Or.inr (Or.inl o))
  · exact Or.inl o
  · exact Or.inr (Or.inr (Or.inr o))
  · exact Or.inr (Or.inl o)
theorem RuK.st {f : Nat → va_E} {r : Nat} {k n s v w : Int} (h : RuK f r k n s v w) : 0 ≤ s ∧ s ≤ 36524 := ⟨h.1.2.2.2.1, h.1.2.2.2.2⟩
theorem onK_0 {n s v w : Int} : onK 0 n s v w = fun d => d = s := by funext d; unfold onK; simp
theorem onK_1 {n s v w : Int} : onK 1 n s v w = onD n s := by funext d; unfold onK; simp
theorem onK_2 {n s v w : Int} : onK 2 n s v w = onW n s v := by funext d; unfold onK; simp
theorem onM_w {k n s v w w' d : Int} (h5 : k ≠ 5) (h6 : k ≠ 6) : onM k n s v w d = onM k n s v w' d := by unfold onM dIn; simp [h5, h6]
theorem RuK.once {f : Nat → va_E} {r : Nat} {k n s v w : Int} (h : RuK f r k n s v w) (o : Ob f r 3) : fI f r 2 = s ∧ 0 ≤ s ∧ s ≤ 36524 ∧ onK k n s v w = fun d => d = s := by
  obtain ⟨⟨h0, h1, h2, h3, h4⟩, h⟩ := h
  rcases h with ⟨o', e, _⟩ | ⟨o', _⟩ | ⟨o', _⟩ | ⟨o', _⟩
  · subst e; exact ⟨h2, h3, h4, onK_0⟩
  · exact absurd (o.uniq o') (by decide)
  · exact absurd (o.uniq o') (by decide)
  · exact absurd (o.uniq o') (by decide)
theorem RuK.days {f : Nat → va_E} {r : Nat} {k n s v w : Int} (h : RuK f r k n s v w) (o : Ob f r 1) : fI f r 2 = s ∧ 0 ≤ s ∧ s ≤ 36524 ∧ fI f r 3 = n ∧ 1 ≤ n ∧ n ≤ 999 ∧ onK k n s v w = onD n s := by
  obtain ⟨⟨h0, h1, h2, h3, h4⟩, h⟩ := h
  rcases h with ⟨o', _⟩ | ⟨o', e, n1, n2, _, _, e3⟩ | ⟨o', _⟩ | ⟨o', _⟩
  · exact absurd (o.uniq o') (by decide)
  · subst e; exact ⟨h2, h3, h4, e3, n1, n2, onK_1⟩
  · exact absurd (o.uniq o') (by decide)
  · exact absurd (o.uniq o') (by decide)
theorem RuK.weeks {f : Nat → va_E} {r : Nat} {k n s v w : Int} (h : RuK f r k n s v w) (o : Ob f r 6) : fI f r 2 = s ∧ 0 ≤ s ∧ s ≤ 36524 ∧ fI f r 3 = n ∧ 1 ≤ n ∧ n ≤ 999 ∧ fI f r 4 = v ∧ 1 ≤ v ∧ v ≤ 127 ∧ fI f r 5 = s - wd s ∧ onK k n s v w = onW n s v := by
  obtain ⟨⟨h0, h1, h2, h3, h4⟩, h⟩ := h
  rcases h with ⟨o', _⟩ | ⟨o', _⟩ | ⟨o', e, n1, n2, v1, v2, _, e3, e4, e5⟩ | ⟨o', _⟩
  · exact absurd (o.uniq o') (by decide)
  · exact absurd (o.uniq o') (by decide)
  · subst e; exact ⟨h2, h3, h4, e3, n1, n2, e4, v1, v2, e5, onK_2⟩
  · exact absurd (o.uniq o') (by decide)
theorem okK.m {k n s v w : Int} (hs : 0 ≤ s) (n1 : 1 ≤ n) (n2 : n ≤ 999) (h : okK k v w) : okM k (nvC k s v) (nwC k v w) ∧ 0 ≤ nvC k s v ∧ nvC k s v ≤ 31 ∧ 0 ≤ nwC k v w ∧ nwC k v w ≤ 6 ∧ 1 ≤ stC k n ∧ stC k n ≤ 12000 ∧ 3 ≤ k ∧ k ≤ 7 ∧ onK k n s v w = onM k (stC k n) s (nvC k s v) (nwC k v w) := by
  obtain ⟨m0, m1, m2⟩ := mo_in hs
  have m3 := cyS_st m0
  have a : okM k (nvC k s v) (nwC k v w) ∧ 0 ≤ nvC k s v ∧ nvC k s v ≤ 31 ∧ 0 ≤ nwC k v w ∧ nwC k v w ≤ 6 ∧ 1 ≤ stC k n ∧ stC k n ≤ 12000 ∧ 3 ≤ k ∧ k ≤ 7 := by
    unfold okM nvC nwC stC
    unfold okK at h
    rcases h with ⟨e, h⟩ | ⟨e, h⟩ | ⟨e, h⟩ | ⟨e, h⟩ | ⟨e, h⟩ <;> subst e <;> simp <;> omega
  obtain ⟨a1, a2, a3, a4, a5, a6, a7, a8, a9⟩ := a
  refine ⟨a1, a2, a3, a4, a5, a6, a7, a8, a9, ?_⟩
  funext d
  unfold okK at h
  rcases h with ⟨e, h⟩ | ⟨e, h⟩ | ⟨e, h⟩ | ⟨e, h⟩ | ⟨e, h⟩ <;> subst e
  · unfold onK nvC nwC stC; simp only [Int.reduceEq, if_false]; exact onM_w (by decide) (by decide)
  · unfold onK nvC nwC stC; simp only [Int.reduceEq, if_false]; exact onM_w (by decide) (by decide)
  · unfold onK nvC nwC stC; simp only [Int.reduceEq, if_false, if_true]
  · unfold onK nvC nwC stC; simp only [Int.reduceEq, if_false, if_true]
  · unfold onK nvC nwC stC; simp only [Int.reduceEq, if_false, if_true]; exact onM_w (by decide) (by decide)
theorem RuK.months {f : Nat → va_E} {r : Nat} {k n s v w : Int} (h : RuK f r k n s v w) (o : Ob f r 2) : fI f r 2 = s ∧ 0 ≤ s ∧ s ≤ 36524 ∧ 1 ≤ fI f r 3 ∧ fI f r 3 ≤ 12000 ∧ fI f r 4 = mo s ∧ okM (fI f r 0) (fI f r 5) (fI f r 6) ∧ 0 ≤ fI f r 5 ∧ fI f r 5 ≤ 31 ∧ 0 ≤ fI f r 6 ∧ fI f r 6 ≤ 6 ∧ onK k n s v w = onM (fI f r 0) (fI f r 3) s (fI f r 5) (fI f r 6) := by
  obtain ⟨⟨h0, h1, h2, h3, h4⟩, h⟩ := h
  rcases h with ⟨o', _⟩ | ⟨o', _⟩ | ⟨o', _⟩ | ⟨o', k1, n1, n2, e3, e4, e5, e6⟩
  · exact absurd (o.uniq o') (by decide)
  · exact absurd (o.uniq o') (by decide)
  · exact absurd (o.uniq o') (by decide)
  · obtain ⟨a1, a2, a3, a4, a5, a6, a7, a8, a9, a10⟩ := k1.m h3 n1 n2
    rw [h0, e3, e5, e6]
    exact ⟨h2, h3, h4, a6, a7, e4, a1, a2, a3, a4, a5, a10⟩
/-- it stays where the rule's own cell stays -/
theorem RuK.of {f g : Nat → va_E} {r : Nat} {k n s v w : Int} (h : RuK f r k n s v w) (e : g r = f r) : RuK g r k n s v w := by
  unfold RuK
  rw [fI_of e, fI_of e, fI_of e, fI_of e, fI_of e, fI_of e, fI_of e]
  refine ⟨h.1, ?_⟩
  rcases h.2 with ⟨o, z⟩ | ⟨o, z⟩ | ⟨o, z⟩ | ⟨o, z⟩
  · exact Or.inl ⟨Ob_of e o, z⟩
  · exact Or.inr (Or.inl ⟨Ob_of e o, z⟩)
  · exact Or.inr (Or.inr (Or.inl ⟨Ob_of e o, z⟩))
  · exact Or.inr (Or.inr (Or.inr ⟨Ob_of e o, z⟩))
theorem dIn_4 {k v w M : Int} (h : k = 4) : dIn k v w M = cyS (M + 1) - v := by subst h; unfold dIn; simp
theorem dIn_5 {k v w M : Int} (h : k = 5) : dIn k v w M = cyS M + (w - (cyS M + 5) % 7 + 7) % 7 + 7 * (v - 1) := by subst h; unfold dIn wd; simp
theorem dIn_6 {k v w M : Int} (h : k = 6) : dIn k v w M = cyS (M + 1) - 1 - ((cyS (M + 1) - 1 + 5) % 7 - w + 7) % 7 := by subst h; unfold dIn wd; simp
theorem dIn_d {k v w M : Int} (h : k < 4 ∨ 6 < k) : dIn k v w M = cyS M + v - 1 := by
  unfold dIn
  rw [if_neg (by omega), if_neg (by omega), if_neg (by omega)]
theorem cyS_b {M : Int} (h0 : 0 ≤ M) (h1 : M ≤ 1200) : 0 ≤ cyS M ∧ cyS M ≤ 36525 := by
  have a := cyS_mono (M := 0) (by omega) h0
  have b := cyS_mono h0 h1
  have := cyS_0
  have := cyS_1200
  omega
/-! ===== what the rules' methods answer ===== -/
theorem once_from {s a r : Int} (hs : s ≤ 36524) (hr : (a ≤ s ∧ r = s) ∨ (s < a ∧ r = -1)) : Fst (fun d => d = s) a r := by
  rcases hr with ⟨h1, h2⟩ | ⟨h1, h2⟩
  · exact Or.inl ⟨by omega, by omega, h2, fun d g1 g2 (g3 : d = s) => by omega⟩
  · exact Or.inr ⟨h2, fun d g1 g2 (g3 : d = s) => by omega⟩
theorem once_to {s b r : Int} (hs : 0 ≤ s) (hr : (s ≤ b ∧ r = s) ∨ (b < s ∧ r = -1)) : Lst (fun d => d = s) b r := by
  rcases hr with ⟨h1, h2⟩ | ⟨h1, h2⟩
  · exact Or.inl ⟨by omega, by omega, h2, fun d g1 g2 (g3 : d = s) => by omega⟩
  · exact Or.inr ⟨h2, fun d g1 g2 (g3 : d = s) => by omega⟩
theorem once_in {s a b r : Int} (hr : (a ≤ s ∧ s ≤ b ∧ r = 1) ∨ ((s < a ∨ b < s) ∧ r = 0)) : r = cn (fun d => d = s) a (b + 1) := by
  rcases hr with ⟨h1, h2, h3⟩ | ⟨h1, h2⟩
  · rw [h3]; exact (cn_one (p := fun d => d = s) (a := a) (b := b + 1) (r := s) h1 (by omega) rfl (fun d _ _ h => h)).symm
  · rw [h2]; exact (cn_none (p := fun d => d = s) (fun d g1 g2 (h : d = s) => by omega)).symm
theorem days_from {n s a r : Int} (hn : 1 ≤ n) (hs : s ≤ 36524) (hr : (a = s ∧ r = s) ∨ (s < a ∧ s + (a - s + n - 1) / n * n ≤ 36524 ∧ r = s + (a - s + n - 1) / n * n) ∨ (s < a ∧ 36524 < s + (a - s + n - 1) / n * n ∧ r = -1)) : Fst (onD n s) a r := by
  rcases hr with ⟨h1, h2⟩ | ⟨h1, h2, h3⟩ | ⟨h1, h2, h3⟩
  · rw [h1, h2]; exact df_start hs
  · rw [h3]; exact df_up (by omega) h1 h2
  · rw [h3]; exact df_none (by omega) h1 h2
theorem days_to {n s b r : Int} (hn : 1 ≤ n) (hs : 0 ≤ s) (hb : s ≤ b) (hr : r = b - (b - s) % n) : Lst (onD n s) b r := by
  rw [hr]; exact dt_dn (by omega) hs hb
theorem days_up {n s b r : Int} (hn : 1 ≤ n) (hr : (b < s ∧ r = 0) ∨ (s ≤ b ∧ r = (b - s) / n + 1)) : r = cn (onD n s) s (b + 1) := by
  rcases hr with ⟨h1, h2⟩ | ⟨h1, h2⟩
  · rw [h2]; exact (cn_le (by omega)).symm
  · have u := dc_up (n := n) (s := s) (by omega) (b - s).toNat
    rw [show (((b - s).toNat : Nat) : Int) = b - s by omega, show s + (b - s) + 1 = b + 1 by omega] at u
    rw [h2, u]
/-! weeks -/
def FW (v a r : Int) : Prop := (r = -1 ∧ ∀ i : Int, a ≤ i → i ≤ 6 → wb v i = false) ∨ (a ≤ r ∧ r ≤ 6 ∧ wb v r = true ∧ ∀ i : Int, a ≤ i → i < r → wb v i = false)
def BW (v b r : Int) : Prop := (r = -1 ∧ ∀ i : Int, 0 ≤ i → i ≤ b → wb v i = false) ∨ (0 ≤ r ∧ r ≤ b ∧ wb v r = true ∧ ∀ i : Int, r < i → i ≤ b → wb v i = false)
theorem wb_tab : ∀ a : Nat, a < 128 → 1 ≤ a → ∃ i : Nat, i < 7 ∧ a.testBit i = true := by decide +kernel
theorem wb_some {v : Int} (h1 : 1 ≤ v) (h2 : v ≤ 127) : ∃ i : Int, 0 ≤ i ∧ i ≤ 6 ∧ wb v i = true := by
  obtain ⟨i, i1, i2⟩ := wb_tab v.toNat (by omega) (by omega)
  exact ⟨(i : Int), by omega, by omega, by unfold wb; rw [show ((i : Int)).toNat = i by omega]; exact i2⟩
theorem FW.all {v r : Int} (h1 : 1 ≤ v) (h2 : v ≤ 127) (h : FW v 0 r) : 0 ≤ r ∧ r ≤ 6 ∧ wb v r = true ∧ ∀ i : Int, 0 ≤ i → i < r → wb v i = false := by
  rcases h with ⟨a, b⟩ | h
  · obtain ⟨i, i1, i2, i3⟩ := wb_some h1 h2
    have := b i i1 i2
    rw [this] at i3; cases i3
  · exact h
theorem BW.all {v r : Int} (h1 : 1 ≤ v) (h2 : v ≤ 127) (h : BW v 6 r) : 0 ≤ r ∧ r ≤ 6 ∧ wb v r = true ∧ ∀ i : Int, r < i → i ≤ 6 → wb v i = false := by
  rcases h with ⟨a, b⟩ | h
  · obtain ⟨i, i1, i2, i3⟩ := wb_some h1 h2
    have := b i i1 i2
    rw [this] at i3; cases i3
  · exact h
def WG (n m v a f6 f7 : Int) : Prop := 0 ≤ f7 ∧ f7 ≤ 6 ∧ (a - m) / 7 ≤ f6 ∧ f6 ≤ (a - m) / 7 + n ∧ a ≤ m + 7 * f6 + f7 ∧ pW n m v (m + 7 * f6 + f7) ∧ ∀ d : Int, a ≤ d → d < m + 7 * f6 + f7 → ¬ pW n m v d
theorem week_go {n m v a b wk fi f f6 f7 : Int} (hn : 1 ≤ n) (v1 : 1 ≤ v) (v2 : v ≤ 127) (hm : m ≤ a) (hb : b = ((a - m) / 7) % n) (k5 : (b = 0 ∧ wk = (a - m) % 7) ∨ (b ≠ 0 ∧ wk = 0)) (k6 : (b = 0 ∧ fi = (a - m) / 7) ∨ (b ≠ 0 ∧ fi = (a - m) / 7 - b + n)) (hf : FW v wk f) (h : (f ≠ -1 ∧ f6 = fi ∧ f7 = f) ∨ (f = -1 ∧ f6 = fi + n ∧ FW v 0 f7)) : WG n m v a f6 f7 := by
  obtain ⟨t1, t2, t3, t4⟩ := st_behind (n := n) (w := (a - m) / 7) (by omega)
  rcases k5 with ⟨b0, b1⟩ | ⟨b0, b1⟩
  · have e6 : fi = (a - m) / 7 := by omega
    have z0 : ((a - m) / 7) % n = 0 := by omega
    rcases h with ⟨h1, h2, h3⟩ | ⟨h1, h2, h3⟩
    · rcases hf with ⟨q1, q2⟩ | ⟨q1, q2, q3, q4⟩
      · exact absurd q1 h1
      · rw [b1] at q1 q4
        have z := wf_a (n := n) hm z0 q1 q2 q3 q4
        rw [h2, h3, e6]
        exact ⟨by omega, by omega, by omega, by omega, z.1, z.2.1, z.2.2⟩
    · rcases hf with ⟨q1, q2⟩ | ⟨q1, q2, q3, q4⟩
      · rw [b1] at q2
        obtain ⟨w1, w2, w3, w4⟩ := h3.all v1 v2
        have z := wf_b (n := n) (m := m) (v := v) (a := a) (f := f7) (W := (a - m) / 7 + n) (by omega) (by rw [Int.add_emod, Int.emod_self, Int.add_zero, Int.emod_emod]; exact z0) (by omega) (by omega) (fun _ i i1 i2 => q2 i i1 i2) w1 w2 w3 w4
        rw [h2, e6]
        exact ⟨by omega, by omega, by omega, by omega, z.1, z.2.1, z.2.2⟩
      · omega
  · have e6 : fi = (a - m) / 7 - b + n := by omega
    rw [b1] at hf
    obtain ⟨w1, w2, w3, w4⟩ := hf.all v1 v2
    rcases h with ⟨h1, h2, h3⟩ | ⟨h1, h2, h3⟩
    · have z := wf_b (n := n) (m := m) (v := v) (a := a) (f := f) (W := (a - m) / 7 - b + n) (by omega) (by rw [hb]; exact t2) (by omega) (by omega) (fun q => absurd q (by omega)) w1 w2 w3 w4
      rw [h2, h3, e6]
      exact ⟨by omega, by omega, by omega, by omega, z.1, z.2.1, z.2.2⟩
    · omega
theorem week_from {n s v a r f6 f7 : Int} (hs : s ≤ a) (h : WG n (s - wd s) v a f6 f7) (hr : (s - wd s + 7 * f6 + f7 ≤ 36524 ∧ r = s - wd s + 7 * f6 + f7) ∨ (36524 < s - wd s + 7 * f6 + f7 ∧ r = -1)) : Fst (onW n s v) a r := by
  obtain ⟨g1, g2, g3, g4, g5, g6, g7⟩ := h
  have z := Fst.of (p := onW n s v) g5 ⟨by omega, g6⟩ (fun d q1 q2 q3 => g7 d q1 q2 q3.2)
  rcases hr with ⟨h1, h2⟩ | ⟨h1, h2⟩
  · rw [h2]; exact z.1 h1
  · rw [h2]; exact z.2 h1
def WT (n m v b f6 f7 : Int) : Prop := 0 ≤ f7 ∧ f7 ≤ 6 ∧ (b - m) / 7 - 2 * n ≤ f6 ∧ f6 ≤ (b - m) / 7 ∧ m + 7 * f6 + f7 ≤ b ∧ pW n m v (m + 7 * f6 + f7) ∧ ∀ d : Int, m + 7 * f6 + f7 < d → d ≤ b → ¬ pW n m v d
theorem week_back {n m v b k wk fi f f6 f7 : Int} (hn : 1 ≤ n) (v1 : 1 ≤ v) (v2 : v ≤ 127) (hm : m ≤ b) (hk : k = ((b - m) / 7) % n) (k5 : (k = 0 ∧ wk = (b - m) % 7) ∨ (k ≠ 0 ∧ wk = 6)) (k6 : fi = (b - m) / 7 - k) (hf : BW v wk f) (h : (f ≠ -1 ∧ f6 = fi ∧ f7 = f) ∨ (f = -1 ∧ f6 = fi - n ∧ BW v 6 f7)) : WT n m v b f6 f7 := by
  obtain ⟨t1, t2, t3, t4⟩ := st_behind (n := n) (w := (b - m) / 7) (by omega)
  rcases k5 with ⟨b0, b1⟩ | ⟨b0, b1⟩
  · have e6 : fi = (b - m) / 7 := by omega
    have z0 : ((b - m) / 7) % n = 0 := by omega
    rcases h with ⟨h1, h2, h3⟩ | ⟨h1, h2, h3⟩
    · rcases hf with ⟨q1, q2⟩ | ⟨q1, q2, q3, q4⟩
      · exact absurd q1 h1
      · rw [b1] at q2 q4
        have z := wt_a (n := n) hm z0 q1 q2 q3 q4
        rw [h2, h3, e6]
        exact ⟨by omega, by omega, by omega, by omega, z.1, z.2.1, z.2.2⟩
    · rcases hf with ⟨q1, q2⟩ | ⟨q1, q2, q3, q4⟩
      · rw [b1] at q2
        obtain ⟨w1, w2, w3, w4⟩ := h3.all v1 v2
        have zz : ((b - m) / 7 - n) % n = 0 := by rw [Int.sub_emod, Int.emod_self, Int.sub_zero, Int.emod_emod]; exact z0
        have z := wt_b (n := n) (m := m) (v := v) (b := b) (f := f7) (W := (b - m) / 7 - n) (by omega) zz (by omega) (by omega) (fun _ i i1 i2 => q2 i i1 i2) w1 w2 w3 w4
        rw [h2, e6]
        exact ⟨by omega, by omega, by omega, by omega, z.1, z.2.1, z.2.2⟩
      · omega
  · rw [b1] at hf
    obtain ⟨w1, w2, w3, w4⟩ := hf.all v1 v2
    rcases h with ⟨h1, h2, h3⟩ | ⟨h1, h2, h3⟩
    · have z := wt_b (n := n) (m := m) (v := v) (b := b) (f := f) (W := (b - m) / 7 - k) (by omega) (by rw [hk]; exact t1) (by omega) (by omega) (fun q => absurd q (by omega)) w1 w2 w3 w4
      rw [h2, h3, k6]
      exact ⟨by omega, by omega, by omega, by omega, z.1, z.2.1, z.2.2⟩
    · omega
theorem week_to {n s v b r f6 f7 : Int} (hs : 0 ≤ s) (h : WT n (s - wd s) v b f6 f7) (hr : (s ≤ s - wd s + 7 * f6 + f7 ∧ r = s - wd s + 7 * f6 + f7) ∨ (s - wd s + 7 * f6 + f7 < s ∧ r = -1)) : Lst (onW n s v) b r := by
  obtain ⟨g1, g2, g3, g4, g5, g6, g7⟩ := h
  rcases hr with ⟨h1, h2⟩ | ⟨h1, h2⟩
  · rw [h2]; exact Or.inl ⟨by omega, g5, ⟨h1, g6⟩, fun d q1 q2 q3 => g7 d q1 q2 q3.2⟩
  · rw [h2]; exact Or.inr ⟨rfl, fun d q1 q2 q3 => g7 d (by have := q3.1; omega) q2 q3.2⟩
theorem week_up {n m v d r : Int} (hn : 1 ≤ n) (hd : m ≤ d) (hr : (((d - m) / 7) % n ≠ 0 ∧ r = ((d - m) / 7 + n - 1) / n * bcU v 7) ∨ (((d - m) / 7) % n = 0 ∧ r = ((d - m) / 7 + n - 1) / n * bcU v 7 + bcU v (((d - m) % 7).toNat + 1))) : r = cn (pW n m v) m (d + 1) := by
  rw [wc_upto (by omega) hd]
  rcases hr with ⟨h1, h2⟩ | ⟨h1, h2⟩
  · rw [if_neg h1, Int.add_zero]; exact h2
  · rw [if_pos h1]; exact h2
theorem week_in {n s v a b : Int} (hs : s ≤ a) (hb : a ≤ b + 1) (hm : 0 ≤ wd s) : cn (pW n (s - wd s) v) (s - wd s) (b + 1) - cn (pW n (s - wd s) v) (s - wd s) a = cn (onW n s v) a (b + 1) := by
  rw [cn_add (a := s - wd s) (b := a) (c := b + 1) (by omega) hb, cn_cg (p := onW n s v) (q := pW n (s - wd s) v) (a := a) (b := b + 1) (fun d g1 g2 => ⟨fun z => z.2, fun z => ⟨by omega, z⟩⟩)]
  omega
theorem mul_b7 {q b u : Int} (q0 : 0 ≤ q) (q1 : q ≤ u) (b0 : 0 ≤ b) (b1 : b ≤ 7) : 0 ≤ q * b ∧ q * b ≤ u * 7 := by
  refine ⟨Int.mul_nonneg q0 b0, ?_⟩
  have h1 : q * b ≤ q * 7 := Int.mul_le_mul_of_nonneg_left b1 q0
  omega
/-! months -/
theorem st_add {n a : Int} : (a + n) % n = a % n := by rw [Int.add_emod, Int.emod_self, Int.add_zero, Int.emod_emod]
theorem st_sub' {n a : Int} : (a - n) % n = a % n := by rw [Int.sub_emod, Int.emod_self, Int.sub_zero, Int.emod_emod]
def DI (k v w M r : Int) : Prop := (cyS M ≤ dIn k v w M ∧ dIn k v w M < cyS (M + 1) ∧ r = dIn k v w M) ∨ (cyS M ≤ dIn k v w M ∧ cyS (M + 1) ≤ dIn k v w M ∧ r = -1)
theorem mo_ret {k n s v w a M r : Int} (hs : 0 ≤ s) (ha : s ≤ a) (hM : mo s ≤ M) (hM2 : M < 1200) (hMn : (M - mo s) % n = 0) (inv : ∀ d : Int, a ≤ d → d < cyS M → ¬ onM k n s v w d) (h : DI k v w M r) (hr : a ≤ r) : Fst (onM k n s v w) a r := by
  obtain ⟨s0, -, -⟩ := mo_in hs
  have cb := cyS_b (M := M + 1) (by omega) (by omega)
  rcases h with ⟨h1, h2, h3⟩ | ⟨h1, h2, h3⟩
  · rw [h3]
    have z := mf_in hs ha hM hMn inv h1 (by omega) h2
    exact Or.inl ⟨by omega, by omega, z.1, z.2⟩
  · omega
theorem mo_end {k n s v w a M : Int} (hM : 1200 ≤ M) (inv : ∀ d : Int, a ≤ d → d < cyS M → ¬ onM k n s v w d) : Fst (onM k n s v w) a (-1) := Or.inr ⟨rfl, mf_none hM inv⟩
theorem mo_nx {k n s v w a M M' r : Int} (hn : 1 ≤ n) (hs : 0 ≤ s) (ha : s ≤ a) (hM : mo s ≤ M) (hMn : (M - mo s) % n = 0) (inv : ∀ d : Int, a ≤ d → d < cyS M → ¬ onM k n s v w d) (h : DI k v w M r) (hr : r < a) (e : M' = M + n) : (M' - mo s) % n = 0 ∧ ∀ d : Int, a ≤ d → d < cyS M' → ¬ onM k n s v w d := by
  rw [e]
  refine ⟨by rw [show M + n - mo s = M - mo s + n by omega, st_add]; exact hMn, mf_out (by omega) hs ha hM hMn inv ?_⟩
  rcases h with ⟨h1, h2, h3⟩ | ⟨h1, h2, h3⟩
  · exact Or.inl (by omega)
  · exact Or.inr h2
theorem mo_tret {k n s v w b M r : Int} (hs : 0 ≤ s) (hM : mo s ≤ M) (hMn : (M - mo s) % n = 0) (inv : ∀ d : Int, s ≤ d → d ≤ b → onM k n s v w d → mo d ≤ M) (h : DI k v w M r) (h0 : r ≠ -1) (hr : r ≤ b) {q : Int} (hq : (s ≤ r ∧ q = r) ∨ (r < s ∧ q = -1)) : Lst (onM k n s v w) b q := by
  rcases h with ⟨h1, h2, h3⟩ | ⟨h1, h2, h3⟩
  · rcases hq with ⟨q1, q2⟩ | ⟨q1, q2⟩
    · have z := mt_in (b := b) hs hM hMn inv h1 h2 (by omega)
      rw [q2, h3]
      exact Or.inl ⟨by omega, by omega, z.1, z.2⟩
    · rw [q2]
      exact Or.inr ⟨rfl, mt_low hs hM inv h1 (by omega)⟩
  · exact absurd h3 h0
theorem mo_tnx {k n s v w b M M' r : Int} (hn : 1 ≤ n) (hs : 0 ≤ s) (hM : mo s ≤ M) (hMn : (M - mo s) % n = 0) (inv : ∀ d : Int, s ≤ d → d ≤ b → onM k n s v w d → mo d ≤ M) (h : DI k v w M r) (hr : r = -1 ∨ b < r) (e : M' = M - n) : (M' - mo s) % n = 0 ∧ ∀ d : Int, s ≤ d → d ≤ b → onM k n s v w d → mo d ≤ M' := by
  rw [e]
  refine ⟨by rw [show M - n - mo s = M - mo s - n by omega, st_sub']; exact hMn, mt_out (by omega) hs hMn inv ?_⟩
  rcases h with ⟨h1, h2, h3⟩ | ⟨h1, h2, h3⟩
  · rcases hr with c | c
    · exfalso
      obtain ⟨s0, -, -⟩ := mo_in hs
      have := cyS_0
      have := cyS_mono (M := 0) (N := M) (by omega) (by omega)
      omega
    · exact Or.inl (by omega)
  · exact Or.inr h2
theorem mo_tend {k n s v w b M : Int} (hs : 0 ≤ s) (hM : M < mo s) (inv : ∀ d : Int, s ≤ d → d ≤ b → onM k n s v w d → mo d ≤ M) : Lst (onM k n s v w) b (-1) := Or.inr ⟨rfl, mt_end hs hM inv⟩
theorem mc_start {k n s v w a t M : Int} (inv : ∀ d : Int, a ≤ d → d < cyS M → ¬ onM k n s v w d) : 0 = cn (onM k n s v w) a (min (cyS M) (t + 1)) := (cn_none (fun d g1 g2 => inv d g1 (by omega))).symm
theorem mc_one {k n s v w a t M r c z : Int} (hn : 1 ≤ n) (hs : 0 ≤ s) (ha : s ≤ a) (ht : 0 ≤ t) (hM : mo s ≤ M) (hMn : (M - mo s) % n = 0) (hMt : M ≤ mo t) (h : DI k v w M r) (hc : c = cn (onM k n s v w) a (min (cyS M) (t + 1))) (hz : (a ≤ r ∧ r ≤ t ∧ z = c + 1) ∨ ((r < a ∨ t < r) ∧ z = c)) : z = cn (onM k n s v w) a (min (cyS (M + n)) (t + 1)) := by
  obtain ⟨s0, -, -⟩ := mo_in hs
  obtain ⟨t0, t1, t2⟩ := mo_in ht
  have u := cyS_mono (M := M) (by omega) hMt
  rcases hz with ⟨a1, a2, a3⟩ | ⟨a1, a3⟩
  · rcases h with ⟨h1, h2, h3⟩ | ⟨h1, h2, h3⟩
    · rw [mc_yes (by omega) hs ha hM hMn (by omega) h1 h2 (by omega) (by omega), ← hc]; exact a3
    · omega
  · rw [mc_no (by omega) hs ha hM hMn (by omega) (by rcases h with ⟨h1, h2, h3⟩ | ⟨h1, h2, h3⟩; exact Or.inr (by omega); exact Or.inl h2), ← hc]; exact a3
theorem mc_fin {k n s v w a t M c : Int} (hs : 0 ≤ s) (ht : 0 ≤ t) (hM : mo s ≤ M) (hMt : mo t < M) (hc : c = cn (onM k n s v w) a (min (cyS M) (t + 1))) : c = cn (onM k n s v w) a (t + 1) := by
  obtain ⟨s0, -, -⟩ := mo_in hs
  obtain ⟨t0, t1, t2⟩ := mo_in ht
  have u := cyS_lt t0 hMt
  rw [show min (cyS M) (t + 1) = t + 1 by omega] at hc
  exact hc
theorem mf_up {n A B M : Int} (hn : 0 < n) (h : (A % n = 0 ∧ M = B) ∨ (A % n ≠ 0 ∧ M = B - A % n + n)) : M ≤ B + n := by
  have := Int.emod_nonneg A (Int.ne_of_gt hn)
  omega
theorem mo_1200 {d : Int} (h : 0 ≤ d) (g : d ≤ 36525) : mo d ≤ 1200 := by
  obtain ⟨a, b, c⟩ := mo_in h
  rcases Int.lt_or_le 1200 (mo d) with q | q
  · have := cyS_lt (M := 1200) (N := mo d) (by omega) q
    have := cyS_1200
    have := cyS_st (M := 1200) (by omega)
    omega
  · exact q
theorem st_addz {n a b m : Int} (h : (a - m) % n = 0) (e : b = a + n) : (b - m) % n = 0 := by rw [e, show a + n - m = a - m + n by omega, st_add]; exact h
theorem mc_arg {p : Int → Prop} {a t M M' z : Int} (h : z = cn p a (min (cyS M) (t + 1))) (e : M' = M) : z = cn p a (min (cyS M') (t + 1)) := by rw [e]; exact h
theorem cn_to {p : Int → Prop} {a b b' z : Int} (h : z = cn p a b) (e : b' = b) : z = cn p a b' := by rw [e]; exact h
theorem cn_ini {p : Int → Prop} {a b : Int} (h : b ≤ a) : 0 = cn p a b := (cn_le h).symm
theorem KP.arg {K : Int → Prop} {k : Int → Int} {n n' d d' : Int} (h : KP K k n d) (en : n' = n) (ed : d' = d) : KP K k n' d' := by rw [en, ed]; exact h
theorem KP.nil' {p : Int → Prop} {low hi most n d : Int} {k : Int → Int} (hn : n = 0) (hd : d = low) : KP (Ky p low hi most) k n d := by rw [hn, hd]; exact KP.nil k
theorem kat_arg {K : Int → Prop} {k : Int → Int} {n a b j j' z : Int} (h : z = cn K a (min (kAt k n j) (b + 1))) (e : j' = j) : z = cn K a (min (kAt k n j') (b + 1)) := by rw [e]; exact h
/-! ===== bits of a set of weekdays ===== -/
theorem bit_tab : ∀ a : Nat, a < 128 → ∀ b : Nat, b < 7 → ((iI ((iI (a : Int) >>> (iI (b : Int) &&& 31)).toInt) &&& iI 1).toInt = 1 ↔ wb (a : Int) (b : Int) = true) := by decide +kernel
theorem bit_at {v v' i x y : Int} (ev : v' = v) (v0 : 0 ≤ v) (v1 : v ≤ 127) (i0 : 0 ≤ i) (i1 : i ≤ 6) (ex : x = (iI v' >>> (iI i &&& 31)).toInt) (ey : y = (iI x &&& iI 1).toInt) : y = 1 ↔ wb v i = true := by
  have t := bit_tab v.toNat (by omega) i.toNat (by omega)
  rw [show ((v.toNat : Nat) : Int) = v by omega, show ((i.toNat : Nat) : Int) = i by omega] at t
  rw [ey, ex, ev]
  exact t
def ushrE (x n : Int) : Int := ((iI x).toUInt32 >>> ((iI n).toUInt32 &&& Int32.toUInt32 31)).toInt32.toInt
def bcE (x0 : Int) : Int :=
  let a3 := ushrE x0 1
  let a7 := (iI a3 &&& iI 1431655765).toInt
  let a8 := (iI x0 - iI a7).toInt
  let a14 := (iI a8 &&& iI 858993459).toInt
  let a17 := ushrE a8 2
  let a21 := (iI a17 &&& iI 858993459).toInt
  let a22 := (iI a14 + iI a21).toInt
  let a27 := ushrE a22 4
  let a28 := (iI a22 + iI a27).toInt
  let a32 := (iI a28 &&& iI 252645135).toInt
  let a38 := ushrE a32 8
  let a39 := (iI a32 + iI a38).toInt
  let a45 := ushrE a39 16
  let a46 := (iI a39 + iI a45).toInt
  (iI a46 &&& iI 63).toInt
theorem bc_tab : ∀ a : Nat, a < 128 → bcE (a : Int) = bcU (a : Int) 7 := by decide +kernel
theorem bc_all {x0 a3 a7 a8 a14 a17 a21 a22 a27 a28 a32 a38 a39 a45 a46 a51 : Int} (h3 : a3 = ((iI x0).toUInt32 >>> ((iI 1).toUInt32 &&& Int32.toUInt32 31)).toInt32.toInt) (h7 : a7 = (iI a3 &&& iI 1431655765).toInt) (h8 : a8 = (iI x0 - iI a7).toInt) (h14 : a14 = (iI a8 &&& iI 858993459).toInt) (h17 : a17 = ((iI a8).toUInt32 >>> ((iI 2).toUInt32 &&& Int32.toUInt32 31)).toInt32.toInt) (h21 : a21 = (iI a17 &&& iI 858993459).toInt) (h22 : a22 = (iI a14 + iI a21).toInt) (h27 : a27 = ((iI a22).toUInt32 >>> ((iI 4).toUInt32 &&& Int32.toUInt32 31)).toInt32.toInt) (h28 : a28 = (iI a22 + iI a27).toInt) (h32 : a32 = (iI a28 &&& iI 252645135).toInt) (h38 : a38 = ((iI a32).toUInt32 >>> ((iI 8).toUInt32 &&& Int32.toUInt32 31)).toInt32.toInt) (h39 : a39 = (iI a32 + iI a38).toInt) (h45 : a45 = ((iI a39).toUInt32 >>> ((iI 16).toUInt32 &&& Int32.toUInt32 31)).toInt32.toInt) (h46 : a46 = (iI a39 + iI a45).toInt) (h51 : a51 = (iI a46 &&& iI 63).toInt) (h0 : 0 ≤ x0) (h1 : x0 ≤ 127) : a51 = bcU x0 7 := by
  have t := bc_tab x0.toNat (by omega)
  rw [show ((x0.toNat : Nat) : Int) = x0 by omega] at t
  rw [← t]
  subst h3 h7 h8 h14 h17 h21 h22 h27 h28 h32 h38 h39 h45 h46 h51
  rfl
theorem mask_tab : ∀ a : Nat, a < 128 → ∀ b : Nat, b < 7 → 2 ≤ (iI 2 <<< (iI (b : Int) &&& 31)).toInt ∧ (iI 2 <<< (iI (b : Int) &&& 31)).toInt ≤ 128 ∧ 0 ≤ (iI (a : Int) &&& iI ((iI 2 <<< (iI (b : Int) &&& 31)).toInt - 1)).toInt ∧ (iI (a : Int) &&& iI ((iI 2 <<< (iI (b : Int) &&& 31)).toInt - 1)).toInt ≤ 127 ∧ bcU (iI (a : Int) &&& iI ((iI 2 <<< (iI (b : Int) &&& 31)).toInt - 1)).toInt 7 = bcU (a : Int) (b + 1) := by decide +kernel
theorem mask_b {i x : Int} (i0 : 0 ≤ i) (i1 : i ≤ 6) (ex : x = (iI 2 <<< (iI i &&& 31)).toInt) : 2 ≤ x ∧ x ≤ 128 := by
  have t := mask_tab 0 (by omega) i.toNat (by omega)
  rw [show ((i.toNat : Nat) : Int) = i by omega] at t
  rw [ex]
  exact ⟨t.1, t.2.1⟩
theorem mask_bc {v v' i x y z : Int} (ev : v' = v) (v0 : 0 ≤ v) (v1 : v ≤ 127) (i0 : 0 ≤ i) (i1 : i ≤ 6) (ex : x = (iI 2 <<< (iI i &&& 31)).toInt) (ey : y = x - 1) (ez : z = (iI v' &&& iI y).toInt) : 0 ≤ z ∧ z ≤ 127 ∧ bcU z 7 = bcU v (i.toNat + 1) := by
  have t := mask_tab v.toNat (by omega) i.toNat (by omega)
  rw [show ((v.toNat : Nat) : Int) = v by omega, show ((i.toNat : Nat) : Int) = i by omega] at t
  rw [ez, ey, ex, ev]
  exact ⟨t.2.2.1, t.2.2.2.1, t.2.2.2.2⟩
/-! ===== the class's keys of a booking ===== -/
theorem Bd.bq {p : Int → Prop} {low hi most fk lk ss : Int} (h : Bd (Ky p low hi most) fk lk) (hl : ss ≤ low) : (fk = -1 ∧ lk = -1) ∨ (0 ≤ fk ∧ ss ≤ fk ∧ fk ≤ lk ∧ lk ≤ 36524) := by
  rcases h with ⟨a, b, c⟩ | ⟨a, b, c, f1, f2, g⟩
  · exact Or.inl ⟨a, b⟩
  · exact Or.inr ⟨a, by have := f1.1; omega, b, c⟩
theorem kf_first' {K : Int → Prop} {fk lk a r : Int} (h : Bd K fk lk) (hf : fk ≠ -1) (c : a ≤ fk) (e : r = fk) : Fst K a r := by rw [e]; exact kf_first h hf c
theorem kt_last' {K : Int → Prop} {fk lk b r : Int} (h : Bd K fk lk) (hf : fk ≠ -1) (c : lk ≤ b) (e : r = lk) : Lst K b r := by rw [e]; exact kt_last h hf c
theorem kn_in' {p : Int → Prop} {low hi most fk lk a b r a' b' : Int} (h : Bd (Ky p low hi most) fk lk) (hf : fk ≠ -1) (ea : a' = max a fk) (eb : b' = min b lk) (e : r = cn p a' (b' + 1)) : r = cn (Ky p low hi most) a (b + 1) := by rw [kn_in h hf, e, ea, eb]
theorem Fst.is {p : Int → Prop} {a r : Int} (h : Fst p a r) (e : r = a) (h0 : 0 ≤ a) : p a := by
  rcases h with ⟨h1, h2, h3, h4⟩ | ⟨h1, h2⟩
  · rw [← e]; exact h3
  · omega
theorem Fst.isno {p : Int → Prop} {a r : Int} (h : Fst p a r) (e : r ≠ a) (h0 : a ≤ 36524) : ¬ p a := by
  intro z
  rcases h with ⟨h1, h2, h3, h4⟩ | ⟨h1, h2⟩
  · exact h4 a (Int.le_refl a) (by omega) z
  · exact h2 a (Int.le_refl a) h0 z
theorem Fst.b {p : Int → Prop} {a r : Int} (h : Fst p a r) : r = -1 ∨ (a ≤ r ∧ r ≤ 36524) := by
  rcases h with ⟨h1, h2, h3, h4⟩ | ⟨h1, h2⟩
  · exact Or.inr ⟨h1, h2⟩
  · exact Or.inl h1
theorem Lst.b {p : Int → Prop} {a r : Int} (h : Lst p a r) : r = -1 ∨ (0 ≤ r ∧ r ≤ a) := by
  rcases h with ⟨h1, h2, h3, h4⟩ | ⟨h1, h2⟩
  · exact Or.inr ⟨h1, h2⟩
  · exact Or.inl h1
theorem Fst.arg {p : Int → Prop} {a a' r : Int} (h : Fst p a r) (e : a = a') : Fst p a' r := e ▸ h
theorem Lst.arg {p : Int → Prop} {a a' r : Int} (h : Lst p a r) (e : a = a') : Lst p a' r := e ▸ h
theorem cn_arg {p : Int → Prop} {a a' b b' r : Int} (h : r = cn p a (b + 1)) (ea : a = a') (eb : b = b') : r = cn p a' (b' + 1) := by rw [← ea, ← eb]; exact h
/-- lastOfTimes: i keys lie from low up to last -/
def LT5 (p : Int → Prop) (low fk last i : Int) : Prop := (fk = -1 ∧ last = -1) ∨ (fk ≠ -1 ∧ fk ≤ last ∧ low ≤ last ∧ last ≤ 36524 ∧ p last ∧ cn p low (last + 1) = i)
def LO5 (p : Int → Prop) (low fk most r : Int) : Prop := (fk = -1 ∧ r = -1) ∨ (fk ≠ -1 ∧ fk ≤ r ∧ r ≤ 36524 ∧ p r ∧ cn p low (r + 1) ≤ most ∧ (cn p low (r + 1) = most ∨ ∀ d : Int, r < d → d ≤ 36524 → ¬ p d))
theorem LT5.b {p : Int → Prop} {low fk last i : Int} (h : LT5 p low fk last i) : last = -1 ∨ (low ≤ last ∧ last ≤ 36524) := by
  rcases h with ⟨h1, h2⟩ | ⟨h1, h2, h3, h4, h5⟩
  · exact Or.inl h2
  · exact Or.inr ⟨h3, h4⟩
theorem LT5.start {p : Int → Prop} {low fk last : Int} (h : Fst p low fk) (e : last = fk) : LT5 p low fk last 1 := by
  rw [e]
  rcases h with ⟨h1, h2, h3, h4⟩ | ⟨h1, h2⟩
  · by_cases c : fk = -1
    · exact Or.inl ⟨c, c⟩
    · refine Or.inr ⟨c, Int.le_refl _, h1, h2, h3, ?_⟩
      rw [cn_yes h1 h3, cn_none (fun d g1 g2 => h4 d g1 g2)]
      omega
  · exact Or.inl ⟨h1, h1⟩
theorem LT5.step {p : Int → Prop} {low fk last i r a i' : Int} (h : LT5 p low fk last i) (hl : last ≠ -1) (f : Fst p a r) (ea : a = last + 1) (hr : r ≠ -1) (ei : i' = i + 1) : LT5 p low fk r i' := by
  rw [ea] at f
  rcases h with ⟨h1, h2⟩ | ⟨h1, h2, h3, h4, h5, h6⟩
  · exact absurd h2 hl
  · have z := lt_step h3 h5 h6 f hr
    exact Or.inr ⟨h1, by omega, by omega, z.2.1, z.2.2.1, by rw [ei]; exact z.2.2.2⟩
theorem LT5.out {p : Int → Prop} {low fk last i most : Int} (h : LT5 p low fk last i) (e : i = most ∨ last = -1) (h0 : 0 ≤ low) : LO5 p low fk most last := by
  rcases h with ⟨h1, h2⟩ | ⟨h1, h2, h3, h4, h5, h6⟩
  · exact Or.inl ⟨h1, h2⟩
  · by_cases c : last = -1
    · omega
    · exact Or.inr ⟨h1, h2, h4, h5, by omega, Or.inl (by omega)⟩
theorem LT5.stop {p : Int → Prop} {low fk last i most r a : Int} (h : LT5 p low fk last i) (hi : i ≤ most) (hl : last ≠ -1) (f : Fst p a r) (ea : a = last + 1) (hr : r = -1) (h0 : 0 ≤ low) : LO5 p low fk most last := by
  rw [ea, hr] at f
  rcases h with ⟨h1, h2⟩ | ⟨h1, h2, h3, h4, h5, h6⟩
  · exact absurd h2 hl
  · refine Or.inr ⟨h1, h2, h4, h5, by omega, Or.inr (fun d g1 g2 => ?_)⟩
    rcases f with ⟨f1, f2, f3, f4⟩ | ⟨f1, f2⟩
    · omega
    · exact f2 d (by omega) g2
/-- settle -/
def HI (u : Int) : Int := if u = -1 then 36524 else u
def SE (p : Int → Prop) (low u most fk lk : Int) : Prop := (most = -1 ∧ Lst p (HI u) lk) ∨ (most ≠ -1 ∧ LO5 p low fk most lk)
theorem SE.none {p : Int → Prop} {low u most fk lk : Int} (h0 : 0 ≤ low) (hu : u = -1 ∨ u ≤ 36524) (hm : most = -1 ∨ (1 ≤ most ∧ u = -1)) (hf : Fst p low fk) (h : SE p low u most fk lk) (c : fk = -1 ∨ lk < fk) : Bd (Ky p low (HI u) most) (-1) (-1) := by
  rcases h with ⟨h1, h2⟩ | ⟨h1, h2⟩
  · have hh : HI u ≤ 36524 := by unfold HI; split <;> omega
    exact Or.inl ⟨rfl, rfl, (bd_until (by omega) h0 hh hf h2).1 c⟩
  · have e : HI u = 36524 := by unfold HI; rw [if_pos (by omega)]
    rw [e]
    rcases h2 with ⟨g1, g2⟩ | ⟨g1, g2, g3⟩
    · rw [g1] at hf; exact bd_notimes hf h0
    · omega
theorem SE.some {p : Int → Prop} {low u most fk lk : Int} (h0 : 0 ≤ low) (hu : u = -1 ∨ u ≤ 36524) (hm : most = -1 ∨ (1 ≤ most ∧ u = -1)) (hf : Fst p low fk) (h : SE p low u most fk lk) (c1 : fk ≠ -1) (c2 : fk ≤ lk) : Bd (Ky p low (HI u) most) fk lk := by
  rcases h with ⟨h1, h2⟩ | ⟨h1, h2⟩
  · have hh : HI u ≤ 36524 := by unfold HI; split <;> omega
    exact (bd_until (by omega) h0 hh hf h2).2 c1 c2
  · have e : HI u = 36524 := by unfold HI; rw [if_pos (by omega)]
    rw [e]
    rcases h2 with ⟨g1, g2⟩ | ⟨g1, g2, g3, g4, g5, g6⟩
    · exact absurd g1 c1
    · exact bd_times (by omega) h0 hf g1 g2 g3 g4 g5 g6
theorem Bd.total {p : Int → Prop} {low hi most fk lk t : Int} (h : Bd (Ky p low hi most) fk lk) (ht : (fk = -1 ∧ t = 0) ∨ (fk ≠ -1 ∧ t = cn p fk (lk + 1))) : t = cn (Ky p low hi most) 0 36525 := by
  rcases ht with ⟨h1, h2⟩ | ⟨h1, h2⟩
  · rw [h2]
    exact (cn_none (fun d g1 g2 k => by have := h.rg k; omega)).symm
  · have b := h.bq (Int.le_refl low)
    have z := kn_in (a := 0) (b := 36524) h h1
    rw [show max 0 fk = fk by omega, show min 36524 lk = lk by omega] at z
    rw [h2, ← z]
    rfl
theorem fI_W {f g : Nat → va_E} {a k : Nat} (h : fV g a k = fV f a k) : fI g a k = fI f a k := by unfold fI; rw [h]
theorem fR_W {f g : Nat → va_E} {a k : Nat} (h : fV g a k = fV f a k) : fR g a k = fR f a k := by unfold fR; rw [h]
/-- the booking's own cell alone, in what settle works out -/
def SeT (f g : Nat → va_E) (a : Nat) : Prop := (∀ y : Nat, y ≠ a → g y = f y) ∧ ∀ j : Nat, j ≠ 7 → j ≠ 8 → j ≠ 9 → fV g a j = fV f a j
theorem SeT.refl (f : Nat → va_E) (a : Nat) : SeT f f a := ⟨fun _ _ => rfl, fun _ _ _ _ => rfl⟩
theorem SeT.put {f g h : Nat → va_E} {a k : Nat} {v : Value} (s : SeT f g a) (e : h = pU g a k v) (hk : k = 7 ∨ k = 8 ∨ k = 9) : SeT f h a := by
  rw [e]
  refine ⟨fun y hy => (pU_ne hy).trans (s.1 y hy), fun j h1 h2 h3 => (fV_pU (Or.inr (by omega))).trans (s.2 j h1 h2 h3)⟩
theorem SeT.int {f g : Nat → va_E} {a : Nat} (s : SeT f g a) {j : Nat} (h1 : j ≠ 7) (h2 : j ≠ 8) (h3 : j ≠ 9) : fI g a j = fI f a j := fI_W (s.2 j h1 h2 h3)
theorem SeT.rk {f g : Nat → va_E} {a r : Nat} {k n s v w : Int} (t : SeT f g a) (h : RuK f r k n s v w) (o : Ob f a 0) : RuK g r k n s v w := by
  refine h.of (t.1 r ?_)
  intro e
  rw [e] at h
  rcases h.rl with q | q | q | q
  · exact absurd (o.uniq q) (by decide)
  · exact absurd (o.uniq q) (by decide)
  · exact absurd (o.uniq q) (by decide)
  · exact absurd (o.uniq q) (by decide)
theorem SeT.er {f g : Nat → va_E} {a r : Nat} (t : SeT f g a) (h : fR f a 3 = some r) : fR g a 3 = some r := (fR_W (t.2 3 (by decide) (by decide) (by decide))).trans h
/-! ===== the reference's isOn ===== -/
def okW (k n v w : Int) : Prop := 0 ≤ k ∧ k ≤ 7 ∧ (k = 0 ∨ (1 ≤ n ∧ n ≤ 999)) ∧ (k = 2 → 1 ≤ v ∧ v ≤ 127) ∧ (k = 5 → 0 ≤ w ∧ w ≤ 6) ∧ (k = 6 → 0 ≤ v ∧ v ≤ 6) ∧ 0 ≤ v ∧ v ≤ 127
theorem okW.k {k n v w : Int} (h : okW k n v w) : 0 ≤ k ∧ k ≤ 7 := ⟨h.1, h.2.1⟩
theorem okW.v2 {k n v w : Int} (h : okW k n v w) (e : k = 2) : 1 ≤ v ∧ v ≤ 127 := h.2.2.2.1 e
theorem okW.w5 {k n v w : Int} (h : okW k n v w) (e : k = 5) : 0 ≤ w ∧ w ≤ 6 := h.2.2.2.2.1 e
theorem okW.v6 {k n v w : Int} (h : okW k n v w) (e : k = 6) : 0 ≤ v ∧ v ≤ 6 := h.2.2.2.2.2.1 e
theorem okW.v {k n v w : Int} (h : okW k n v w) : 0 ≤ v ∧ v ≤ 127 := h.2.2.2.2.2.2
theorem RuK.words {f : Nat → va_E} {r : Nat} {k n s v w : Int} (h : RuK f r k n s v w) : okW k n v w := by
  unfold okW
  rcases h.2 with ⟨o, e, z⟩ | ⟨o, e, z⟩ | ⟨o, e, z⟩ | ⟨o, e, z⟩
  · refine ⟨by omega, by omega, by omega, fun q => by omega, fun q => by omega, fun q => by omega, by omega, by omega⟩
  · refine ⟨by omega, by omega, by omega, fun q => by omega, fun q => by omega, fun q => by omega, by omega, by omega⟩
  · refine ⟨by omega, by omega, by omega, fun q => by omega, fun q => by omega, fun q => by omega, by omega, by omega⟩
  · unfold okK at e
    refine ⟨by omega, by omega, by omega, fun q => by omega, fun q => by omega, fun q => by omega, by omega, by omega⟩
def OnR (k n s v w d r : Int) : Prop := (r = 1 ∧ onK k n s v w d) ∨ (r = 0 ∧ ¬ onK k n s v w d)
theorem on_of {k n s v w d r : Int} {P : Prop} (h : onK k n s v w d ↔ P) (hr : (r = 1 ∧ P) ∨ (r = 0 ∧ ¬ P)) : OnR k n s v w d r := by
  rcases hr with ⟨a, b⟩ | ⟨a, b⟩
  · exact Or.inl ⟨a, h.mpr b⟩
  · exact Or.inr ⟨a, fun z => b (h.mp z)⟩
theorem OnR.yes {k n s v w d r : Int} (h : OnR k n s v w d r) (e : r ≠ 0) : onK k n s v w d := by
  rcases h with ⟨a, b⟩ | ⟨a, b⟩
  · exact b
  · exact absurd a e
theorem OnR.no {k n s v w d r : Int} (h : OnR k n s v w d r) (e : r = 0) : ¬ onK k n s v w d := by
  rcases h with ⟨a, b⟩ | ⟨a, b⟩
  · omega
  · exact b
theorem on_0 {k n s v w d : Int} (hk : k = 0) : onK k n s v w d ↔ d = s := by subst hk; rw [onK_0]
theorem on_1 {k n s v w d : Int} (hk : k = 1) (hd : s ≤ d) : onK k n s v w d ↔ (d - s) % n = 0 := by
  subst hk; rw [onK_1]; exact ⟨fun z => z.2, fun z => ⟨hd, z⟩⟩
theorem on_2 {k n s v w d : Int} (hk : k = 2) (hs : 0 ≤ s) (hd : s ≤ d) : onK k n s v w d ↔ (wb v (wd d) = true ∧ ((d + 5) / 7 - (s + 5) / 7) % n = 0) := by
  subst hk; rw [onK_2]
  have z := onW_iff (n := n) (v := v) hs hd
  exact ⟨fun q => z.mp q.2, fun q => ⟨hd, z.mpr q⟩⟩
theorem on_3 {k n s v w d ys ms js y m j : Int} (hk : k = 3) (h : DV ys ms js s) (g : DV y m j d) (hd : s ≤ d) : onK k n s v w d ↔ ((12 * (y - ys) + m - ms) % n = 0 ∧ j = v) := by
  subst hk; unfold onK; simp only [Int.reduceEq, if_false]; exact rk_on (Or.inl rfl) h g hd
theorem on_4 {k n s v w d ys ms js y m j : Int} (hk : k = 4) (h : DV ys ms js s) (g : DV y m j d) (hd : s ≤ d) : onK k n s v w d ↔ ((12 * (y - ys) + m - ms) % n = 0 ∧ j = dI y m - v + 1) := by
  subst hk; unfold onK; simp only [Int.reduceEq, if_false]; exact rk_end h g hd
theorem on_5 {k n s v w d ys ms js y m j : Int} (hk : k = 5) (h : DV ys ms js s) (g : DV y m j d) (hd : s ≤ d) (w0 : 0 ≤ w) (w6 : w ≤ 6) : onK k n s v w d ↔ ((12 * (y - ys) + m - ms) % n = 0 ∧ (d + 5) % 7 = w ∧ (j - 1) / 7 + 1 = v) := by
  subst hk; unfold onK; simp only [Int.reduceEq, if_false]; exact rk_nth h g hd w0 w6
theorem on_6 {k n s v w d ys ms js y m j : Int} (hk : k = 6) (h : DV ys ms js s) (g : DV y m j d) (hd : s ≤ d) (w0 : 0 ≤ v) (w6 : v ≤ 6) : onK k n s v w d ↔ ((12 * (y - ys) + m - ms) % n = 0 ∧ (d + 5) % 7 = v ∧ dI y m < j + 7) := by
  subst hk; unfold onK; simp only [Int.reduceEq, if_false, if_true]; exact rk_last h g hd w0 w6
theorem on_7 {k n s v w d ys ms js y m j : Int} (hk : k = 7) (hn : 1 ≤ n) (h : DV ys ms js s) (g : DV y m j d) (hd : s ≤ d) : onK k n s v w d ↔ ((y - ys) % n = 0 ∧ m = ms ∧ j = js) := by
  subst hk; unfold onK; simp only [Int.reduceEq, if_false, if_true]; exact rk_year (by omega) h g hd
theorem KL.cg {K : Int → Prop} {k k' : Int → Int} {n : Int} (h : KL K k n) (e : ∀ j : Int, k' j = k j) : KL K k' n := by
  rw [show k' = k from funext e]; exact h
/-! ===== the reference's row of keys, asked ===== -/
theorem KL.cnt0 {K : Int → Prop} {k : Int → Int} {n a b : Int} (h : KL K k n) : 0 = cn K a (min (kAt k n 0) (b + 1)) := by
  obtain ⟨h0, h1, h2, h3⟩ := h
  refine (cn_none (fun d g1 g2 kd => ?_)).symm
  obtain ⟨i, i0, i1, i2⟩ := h3 d kd
  unfold kAt at g2
  rw [if_pos (by omega)] at g2
  rcases Int.lt_or_le 0 i with c | c
  · have := h2 0 i (by omega) c i1; omega
  · have e : i = 0 := by omega
    rw [e] at i2; omega
theorem kc_step {K : Int → Prop} {k : Int → Int} {n a b j c z kj : Int} (h : KL K k n) (hr : ∀ d : Int, K d → d ≤ 36524) (hb : b ≤ 36524) (j0 : 0 ≤ j) (j1 : j < n) (hc : c = cn K a (min (kAt k n j) (b + 1))) (ek : kj = k j) (hz : (a ≤ kj ∧ kj ≤ b ∧ z = c + 1) ∨ ((kj < a ∨ b < kj) ∧ z = c)) : z = cn K a (min (kAt k n (j + 1)) (b + 1)) := by
  rw [h.step hr hb j0 j1]
  have e : kAt k n j = k j := by unfold kAt; rw [if_pos j1]
  rw [e] at hc
  rw [← hc, ← ek]
  rcases hz with ⟨q1, q2, q3⟩ | ⟨q1, q2⟩
  · rw [if_pos ⟨q1, q2⟩]; exact q3
  · rw [if_neg (by omega), Int.add_zero]; exact q2
theorem kc_fin {K : Int → Prop} {k : Int → Int} {n a b j c : Int} (hb : b ≤ 36524) (j1 : n ≤ j) (hc : c = cn K a (min (kAt k n j) (b + 1))) : c = cn K a (b + 1) := by
  unfold kAt at hc
  rw [if_neg (by omega), show min (36525 : Int) (b + 1) = b + 1 by omega] at hc
  exact hc
theorem KL.has {K : Int → Prop} {k : Int → Int} {n a i : Int} (h : KL K k n) (i0 : 0 ≤ i) (i1 : i < n) (e : k i = a) : K a := by rw [← e]; exact h.2.1 i i0 i1
theorem KL.hasnt {K : Int → Prop} {k : Int → Int} {n a : Int} (h : KL K k n) (pr : ∀ j : Int, 0 ≤ j → j < n → k j ≠ a) : ¬ K a := fun z => by
  obtain ⟨i, i0, i1, i2⟩ := h.2.2.2 a z
  exact pr i i0 i1 i2
theorem UN_le {g : Int → Int} {p : Int} (h : g (p + 8) ≤ 36524) : UN g p ≤ 36524 := by unfold UN; split <;> omega
/-- all rows' words are good -/
def MOk (f : Nat → va_E) (a : Nat) (ad : Nat → Nat) : Prop := ∀ b : Int, 0 ≤ b → b < fI f a 5 → okW (aI f (ad 4) (44 * b + 3)) (aI f (ad 4) (44 * b + 4)) (aI f (ad 4) (44 * b + 6)) (aI f (ad 4) (44 * b + 7))
theorem MOk.kp {f g : Nat → va_E} {a : Nat} {ad : Nat → Nat} {rs fs : List Nat} (h : MOk f a ad) (k : Kp a ad rs fs f g) (h1 : 4 ∉ rs) (h2 : 5 ∉ fs) : MOk g a ad := by
  have e5 : fI g a 5 = fI f a 5 := k.2 5 h2
  have e4 : aI g (ad 4) = aI f (ad 4) := funext fun x => k.1 4 rfl h1 x
  unfold MOk
  rw [e5, e4]
  exact h
