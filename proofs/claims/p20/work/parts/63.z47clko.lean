/-! ===== clashes: the first one ===== -/
/-- one of P, lb long, clashes at x with what begins at a and is la long; from u on -/
def CL (P : Int → Int → Prop) (lb a la u x : Int) : Prop := ∃ t k : Int, P t k ∧ t < a + la ∧ a < t + lb ∧ x = max t a ∧ u ≤ x
def Mn (C : Int → Prop) (r : Int) : Prop := (r = 2147483647 ∧ ∀ x : Int, ¬ C x) ∨ (r ≤ 52595999 ∧ C r ∧ ∀ x : Int, C x → r ≤ x)
/-- none at a itself -/
def NM (P : Int → Int → Prop) (lb a u : Int) : Prop := ∀ t k : Int, P t k → t ≤ a → a < t + lb → a < u
theorem nm_lt {P : Int → Int → Prop} {lb a u : Int} (h : a < u) : NM P lb a u := fun _ _ _ _ _ => h
theorem nm_sa {P : Int → Int → Prop} {lb a u b T K : Int} (s : Sa P b T K) (eb : b = a + 1) (h : K = -1 ∨ T + lb ≤ a) (pk : ∀ t k : Int, P t k → 0 ≤ k) : NM P lb a u := by
  subst eb
  intro t k z z1 z2
  rcases s with ⟨s1, s2, s3⟩ | ⟨s1, s2, s3⟩
  · have := s3 t k z; omega
  · have v := s3 t k z (by omega)
    have := pk _ _ s1
    unfold Lx at v
    omega
theorem mt_1 {P : Int → Int → Prop} {lb a la u b T K : Int} (s : Sa P b T K) (eb : b = a + 1) (hK : K ≠ -1) (h : a < T + lb) (hu : u ≤ a) (l1 : 1 ≤ la) (a1 : a ≤ 52595999) : Mn (CL P lb a la u) a := by
  subst eb
  rcases s with ⟨s1, s2, s3⟩ | ⟨s1, s2, s3⟩
  · exact absurd s1 hK
  · exact Or.inr ⟨a1, ⟨T, K, s1, by omega, h, by omega, hu⟩, fun x ⟨t, k, _, _, _, e, _⟩ => by omega⟩
theorem mt_2 {P : Int → Int → Prop} {lb a la u b T K : Int} (nm : NM P lb a u) (s : Sk P b 0 T K) (eb : b = max (a + 1) u) (hK : K ≠ -1) (h : T < a + la) (l1 : 1 ≤ lb) (pk : ∀ t k : Int, P t k → 0 ≤ k ∧ t ≤ 52595999) : Mn (CL P lb a la u) T := by
  subst eb
  rcases s with ⟨s1, s2, s3⟩ | ⟨s1, s2, s3⟩
  · exact absurd s1 hK
  · have p1 := pk _ _ s1
    have tb : max (a + 1) u ≤ T := by unfold Lx at s2; omega
    refine Or.inr ⟨p1.2, ⟨T, K, s1, h, by omega, by omega, by omega⟩, fun x ⟨t, k, z, z1, z2, e, z3⟩ => ?_⟩
    rcases Int.lt_or_le a t with c | c
    · have p2 := pk _ _ z
      have v := s3 t k z (by unfold Lx; omega)
      unfold Lx at v
      omega
    · have := nm t k z c z2
      omega
theorem mt_3 {P : Int → Int → Prop} {lb a la u b T K : Int} (nm : NM P lb a u) (s : Sk P b 0 T K) (eb : b = max (a + 1) u) (h : K = -1 ∨ a + la ≤ T) (pk : ∀ t k : Int, P t k → 0 ≤ k ∧ t ≤ 52595999) : Mn (CL P lb a la u) 2147483647 := by
  subst eb
  refine Or.inl ⟨rfl, fun x ⟨t, k, z, z1, z2, e, z3⟩ => ?_⟩
  have p2 := pk _ _ z
  rcases Int.lt_or_le a t with c | c
  · rcases s with ⟨s1, s2, s3⟩ | ⟨s1, s2, s3⟩
    · have v := s3 t k z; unfold Lx at v; omega
    · have p1 := pk _ _ s1
      have v := s3 t k z (by unfold Lx; omega)
      unfold Lx at v
      omega
  · have := nm t k z c z2
    omega
/-- a clash of two bookings at x -/
def CC (P : Int → Int → Prop) (la : Int) (Q : Int → Int → Prop) (lb u x : Int) : Prop := ∃ a k : Int, P a k ∧ CL Q lb a la u x
theorem CC.symm {P Q : Int → Int → Prop} {la lb u x : Int} (h : CC P la Q lb u x) : CC Q lb P la u x := by
  obtain ⟨a, k, h1, t, j, h2, h3, h4, h5, h6⟩ := h
  exact ⟨t, j, h2, a, k, h1, h4, h3, by omega, h6⟩
/-- with what is told otherwise, up to a place -/
def MC (A : Int → Int) (i : Int) (Q : Int → Int → Prop) (lb la u x : Int) : Prop := ∃ l : Int, 0 ≤ l ∧ l < i ∧ A l ≠ -1 ∧ CL Q lb (A l) la u x
/-- r: c, or a clash ahead of it; none of S is ahead of r -/
def Bw (C S : Int → Prop) (c r : Int) : Prop := r ≤ c ∧ (r = c ∨ C r) ∧ ∀ x : Int, S x → r ≤ x
theorem Bw.start {C S : Int → Prop} {c r : Int} (e : r = c) (h : ∀ x : Int, ¬ S x) : Bw C S c r := ⟨by omega, Or.inl e, fun x z => absurd z (h x)⟩
theorem Bw.cg {C S S' : Int → Prop} {c r : Int} (h : Bw C S c r) (e : ∀ x : Int, S' x → S x) : Bw C S' c r := ⟨h.1, h.2.1, fun x z => h.2.2 x (e x z)⟩
theorem Bw.min {C S M S' : Int → Prop} {c r m r' : Int} (h : Bw C S c r) (hm : Mn M m) (er : r' = min r m) (c1 : c ≤ 2147483647) (sub : ∀ x : Int, M x → C x) (e : ∀ x : Int, S' x → (S x ∨ M x)) : Bw C S' c r' := by
  obtain ⟨h1, h2, h3⟩ := h
  rcases hm with ⟨m1, m2⟩ | ⟨m1, m2, m3⟩
  · rw [show r' = r by omega]
    exact ⟨h1, h2, fun x z => (e x z).elim (h3 x) (fun w => absurd w (m2 x))⟩
  · refine ⟨by omega, ?_, fun x z => ?_⟩
    · by_cases q : r ≤ m
      · rw [show r' = r by omega]; exact h2
      · rw [show r' = m by omega]; exact Or.inr (sub m m2)
    · rcases e x z with w | w
      · have := h3 x w; omega
      · have := m3 x w; omega
theorem Bw.join {C S S' : Int → Prop} {c r r' : Int} (h : Bw C S c r) (g : Bw C S' r r') : Bw C (fun x => S x ∨ S' x) c r' :=
  ⟨by have := h.1; have := g.1; omega, g.2.1.elim (fun e => by rw [e]; exact h.2.1) Or.inr, fun x z => z.elim (fun z => by have := h.2.2 x z; have := g.1; omega) (g.2.2 x)⟩
theorem mcc_no {A : Int → Int} {i lb la u x : Int} {Q : Int → Int → Prop} (i0 : 0 ≤ i) (h : A i = -1) (z : MC A (i + 1) Q lb la u x) : MC A i Q lb la u x := by
  obtain ⟨l, l0, l1, l2, l3⟩ := z
  by_cases e : l = i
  · rw [e] at l2; exact absurd h l2
  · exact ⟨l, l0, by omega, l2, l3⟩
theorem mcc_yes {A : Int → Int} {i lb la u x : Int} {Q : Int → Int → Prop} (z : MC A (i + 1) Q lb la u x) : MC A i Q lb la u x ∨ CL Q lb (A i) la u x := by
  obtain ⟨l, l0, l1, l2, l3⟩ := z
  by_cases e : l = i
  · rw [e] at l3; exact Or.inr l3
  · exact Or.inl ⟨l, l0, by omega, l2, l3⟩
/-! those that both rules make -/
def RRc (K : Int → Prop) (O : Int → Int) (M l : Int) (K' : Int → Prop) (O' : Int → Int) (M' l' u k j x : Int) : Prop := (K k ∧ O k = -2) ∧ (K' j ∧ O' j = -2) ∧ 1440 * j + M' < 1440 * k + M + l ∧ 1440 * k + M < 1440 * j + M' + l' ∧ x = max (1440 * j + M') (1440 * k + M) ∧ u ≤ x
theorem RRc.near {K K' : Int → Prop} {O O' : Int → Int} {M l M' l' u k j x : Int} (h : RRc K O M l K' O' M' l' u k j x) (m0 : 0 ≤ M) (m1 : M ≤ 1439) (n0 : 0 ≤ M') (n1 : M' ≤ 1439) (l1 : l ≤ 4320) (l2 : l' ≤ 4320) : k - j ≤ 3 ∧ j - k ≤ 3 := by
  obtain ⟨_, _, h3, h4, _⟩ := h
  omega
/-- the key ahead of which nothing clashes any more, from u on -/
theorem RRc.low {K K' : Int → Prop} {O O' : Int → Int} {M l M' l' u k j x fk lk : Int} (h : RRc K O M l K' O' M' l' u k j x) (bd : Bd K' fk lk) (m0 : 0 ≤ M) (m1 : M ≤ 1439) (n0 : 0 ≤ M') (n1 : M' ≤ 1439) (l0 : 1 ≤ l) (l1 : l ≤ 4320) (l2 : l' ≤ 4320) (u0 : 0 ≤ u) : max (u / 1440) fk - 4 ≤ k := by
  have nr := h.near m0 m1 n0 n1 l1 l2
  obtain ⟨_, ⟨h2, _⟩, h3, h4, h5, h6⟩ := h
  have b := bd.rg h2
  omega
/-- how the search stands: up to key, all is seen -/
def RI (K : Int → Prop) (O : Int → Int) (M l : Int) (K' : Int → Prop) (O' : Int → Int) (M' l' u : Int) (C : Int → Prop) (c key first i : Int) : Prop := (key = -1 ∨ (K key ∧ 0 ≤ key ∧ key ≤ 36524 ∧ i ≤ key)) ∧ Bw C (fun x => ∃ k j : Int, RRc K O M l K' O' M' l' u k j x ∧ (key = -1 ∨ k < key)) c first
theorem RI.start {K K' : Int → Prop} {O O' : Int → Int} {M l M' l' u fk lk c key first i a : Int} {C : Int → Prop} (f : Fst K a key) (ea : a = max (u / 1440) fk - 4) (hr : ∀ d : Int, K d → 0 ≤ d ∧ d ≤ 36524) (bd : Bd K' fk lk) (m0 : 0 ≤ M) (m1 : M ≤ 1439) (n0 : 0 ≤ M') (n1 : M' ≤ 1439) (l0 : 1 ≤ l) (l1 : l ≤ 4320) (l2 : l' ≤ 4320) (u0 : 0 ≤ u) (hi : i = 0) (hf : first = c) : RI K O M l K' O' M' l' u C c key first i := by
  subst ea
  refine ⟨?_, Bw.start hf (fun x ⟨k, j, z, w⟩ => ?_)⟩
  · rcases f with ⟨f1, f2, f3, f4⟩ | ⟨f1, f2⟩
    · have := hr _ f3; exact Or.inr ⟨f3, by omega, by omega, by omega⟩
    · exact Or.inl f1
  · have lo := z.low bd m0 m1 n0 n1 l0 l1 l2 u0
    have hk := hr k z.1.1
    rcases f with ⟨f1, f2, f3, f4⟩ | ⟨f1, f2⟩
    · have := hr _ f3
      rcases w with w | w
      · omega
      · exact f4 k lo w z.1.1
    · exact f2 k lo hk.2 z.1.1
/-- further on: nothing in between clashes, or it was taken -/
theorem RI.go {K K' : Int → Prop} {O O' : Int → Int} {M l M' l' u c key key' first first' i i' a : Int} {C : Int → Prop} (h : RI K O M l K' O' M' l' u C c key first i) (hk : key ≠ -1) (f : Fst K a key') (ha : key < a) (hr : ∀ d : Int, K d → 0 ≤ d ∧ d ≤ 36524) (ei : i' = i + 1) (bw : Bw C (fun x => ∃ k j : Int, RRc K O M l K' O' M' l' u k j x ∧ (k < key ∨ k = key)) c first') (no : ∀ k j x : Int, RRc K O M l K' O' M' l' u k j x → key < k → a ≤ k) : RI K O M l K' O' M' l' u C c key' first' i' := by
  subst ei
  obtain ⟨h1, h2⟩ := h
  have hb : K key ∧ 0 ≤ key ∧ key ≤ 36524 ∧ i ≤ key := h1.resolve_left hk
  refine ⟨?_, bw.cg (fun x ⟨k, j, z, w⟩ => ⟨k, j, z, ?_⟩)⟩
  · rcases f with ⟨f1, f2, f3, f4⟩ | ⟨f1, f2⟩
    · have := hr _ f3; exact Or.inr ⟨f3, by omega, by omega, by omega⟩
    · exact Or.inl f1
  · rcases Int.lt_trichotomy k key with q | q | q
    · exact Or.inl q
    · exact Or.inr q
    · have ka := no k j x z q
      have hkk := hr k z.1.1
      rcases f with ⟨f1, f2, f3, f4⟩ | ⟨f1, f2⟩
      · have := hr _ f3
        rcases w with w | w
        · omega
        · exact absurd z.1.1 (f4 k ka w)
      · exact absurd z.1.1 (f2 k ka hkk.2)
theorem RI.bw {K K' : Int → Prop} {O O' : Int → Int} {M l M' l' u c key first i : Int} {C : Int → Prop} (h : RI K O M l K' O' M' l' u C c key first i) (hk : key ≠ -1) (no : ∀ j x : Int, ¬ RRc K O M l K' O' M' l' u key j x) : Bw C (fun x => ∃ k j : Int, RRc K O M l K' O' M' l' u k j x ∧ (k < key ∨ k = key)) c first :=
  h.2.cg (fun x ⟨k, j, z, w⟩ => ⟨k, j, z, w.elim Or.inr (fun w => by rw [w] at z; exact absurd z (no j x))⟩)
/-- the key's own clashes are taken -/
theorem RI.add {K K' : Int → Prop} {O O' : Int → Int} {M l M' l' u c key first first' i m : Int} {C : Int → Prop} {Q : Int → Int → Prop} (h : RI K O M l K' O' M' l' u C c key first i) (hk : key ≠ -1) (hm : Mn (CL Q l' (1440 * key + M) l u) m) (er : first' = min first m) (c1 : c ≤ 2147483647) (sub : ∀ x : Int, CL Q l' (1440 * key + M) l u x → C x) (hq : ∀ j : Int, K' j → O' j = -2 → Q (1440 * j + M') j) : Bw C (fun x => ∃ k j : Int, RRc K O M l K' O' M' l' u k j x ∧ (k < key ∨ k = key)) c first' :=
  h.2.min hm er c1 sub (fun x ⟨k, j, z, w⟩ => by
    rcases w with w | w
    · exact Or.inl ⟨k, j, z, Or.inr w⟩
    · rw [w] at z
      obtain ⟨z1, z2, z3, z4, z5, z6⟩ := z
      exact Or.inr ⟨_, j, hq j z2.1 z2.2, z3, z4, z5, z6⟩)
/-- no further key of the other one is near -/
theorem RI.none {K K' : Int → Prop} {O O' : Int → Int} {M l M' l' u c key first i a : Int} {C : Int → Prop} (h : RI K O M l K' O' M' l' u C c key first i) (hk : key ≠ -1) (f : Fst K' a (-1)) (a1 : 1440 * (a - 1) + M' < 1440 * key + M - l' + 1) (hr : ∀ d : Int, K' d → 0 ≤ d ∧ d ≤ 36524) : Bw C (fun x => ∃ k j : Int, RRc K O M l K' O' M' l' u k j x) c first := by
  refine h.2.cg (fun x ⟨k, j, z⟩ => ⟨k, j, z, Or.inr ?_⟩)
  rcases Int.lt_or_le k key with q | q
  · exact q
  · obtain ⟨z1, z2, z3, z4, z5, z6⟩ := z
    have hj := hr j z2.1
    rcases f with ⟨f1, f2, f3, f4⟩ | ⟨f1, f2⟩
    · have := hr _ f3; omega
    · exact absurd z2.1 (f2 j (by omega) hj.2)
/-- the next key that reaches the near one -/
theorem ri_skip {K K' : Int → Prop} {O O' : Int → Int} {M l M' l' u key near a b : Int} (f : Fst K' a near) (hn : near ≠ -1) (a1 : 1440 * (a - 1) + M' < 1440 * key + M - l' + 1) (hr : ∀ d : Int, K' d → 0 ≤ d ∧ d ≤ 36524) (b1 : 1440 * (b - 1) + M < 1440 * near + M' - l + 1) : ∀ k j x : Int, RRc K O M l K' O' M' l' u k j x → key ≤ k → b ≤ k := by
  intro k j x z q
  obtain ⟨z1, z2, z3, z4, z5, z6⟩ := z
  have hj := hr j z2.1
  rcases f with ⟨f1, f2, f3, f4⟩ | ⟨f1, f2⟩
  · have nj : near ≤ j := by
      rcases Int.lt_or_le j near with w | w
      · exact absurd z2.1 (f4 j (by omega) w)
      · exact w
    omega
  · exact absurd f1 hn
/-! from where on both go on, all comes again -/
def Per (K : Int → Prop) (fk c : Int) : Prop := ∀ d n : Int, 0 ≤ n → K d → fk ≤ d - n * c → 0 ≤ d - n * c → K (d - n * c)
theorem cn_imp {p q : Int → Prop} {a b : Int} (h : ∀ d : Int, a ≤ d → d < b → p d → q d) : cn p a b ≤ cn q a b := by
  have e := cn_cg (p := q) (q := fun d => p d ∨ (q d ∧ ¬ p d)) (a := a) (b := b) (fun d d0 d1 => ⟨fun z => (Classical.em (p d)).elim Or.inl (fun w => Or.inr ⟨z, w⟩), fun z => z.elim (h d d0 d1) (fun w => w.1)⟩)
  have f := cn_or (p := p) (q := fun d => q d ∧ ¬ p d) (a := a) (b := b) (fun d _ _ z => z.2.2 z.1)
  have n := (cn_pos (p := fun d => q d ∧ ¬ p d) (a := a) (b := b)).1
  omega
theorem cn_or_le {p q : Int → Prop} {a b : Int} : cn (fun d => p d ∨ q d) a b ≤ cn p a b + cn q a b := by
  have e := cn_cg (p := fun d => p d ∨ q d) (q := fun d => p d ∨ (q d ∧ ¬ p d)) (a := a) (b := b) (fun d _ _ => ⟨fun z => (Classical.em (p d)).elim Or.inl (fun w => Or.inr ⟨z.resolve_left w, w⟩), fun z => z.imp id (fun w => w.1)⟩)
  have f := cn_or (p := p) (q := fun d => q d ∧ ¬ p d) (a := a) (b := b) (fun d _ _ z => z.2.2 z.1)
  have n := cn_imp (p := fun d => q d ∧ ¬ p d) (q := q) (a := a) (b := b) (fun d _ _ z => z.1)
  omega
/-- of so many steps back, some are not told otherwise -/
theorem step_back {O : Int → Int} {d c n m : Int} (n0 : 0 ≤ n) (c0 : 0 < c) (hd : d ≤ 36524) (lo : n * c ≤ d) (hm : m = cn (fun k => O k ≠ -2) 0 36525) : cn (fun i => O (d - (i + 1) * c) ≠ -2) 0 n ≤ m := by
  have e := cn_img' (f := fun i => d - (i + 1) * c) (p := fun i => O (d - (i + 1) * c) ≠ -2) (q := fun k => ∃ i : Int, 0 ≤ i ∧ i < n ∧ O (d - (i + 1) * c) ≠ -2 ∧ d - (i + 1) * c = k) n0 (fun i j i0 i1 j0 j1 _ _ e => ?_) (fun i i0 i1 _ => ?_) (fun k _ _ => Iff.rfl)
  · rw [e, hm]
    exact cn_imp (fun k _ _ ⟨i, i0, i1, i2, i3⟩ => by rw [← i3]; exact i2)
  · have e : d - (i + 1) * c = d - (j + 1) * c := e
    have e2 : (i + 1) * c = (j + 1) * c := by omega
    have := st_one (n := c) (k := i + 1) (j := j + 1) c0 (by omega) (by omega)
    omega
  · show 0 ≤ d - (i + 1) * c ∧ d - (i + 1) * c ≤ 36524
    have h1 : (i + 1) * c ≤ n * c := Int.mul_le_mul_of_nonneg_right (by omega) (Int.le_of_lt c0)
    have h2 : 0 ≤ (i + 1) * c := Int.mul_nonneg (by omega) (Int.le_of_lt c0)
    omega
theorem RRc.back {K K' : Int → Prop} {O O' : Int → Int} {M l M' l' u k j x fk fk' c b n m m' : Int} (h : RRc K O M l K' O' M' l' u k j x) (m0 : 0 ≤ M) (m1 : M ≤ 1439) (n0 : 0 ≤ M') (n1 : M' ≤ 1439) (l1 : l ≤ 4320) (l2 : l' ≤ 4320) (u0 : 0 ≤ u) (hr : ∀ d : Int, K d → 0 ≤ d ∧ d ≤ 36524) (hr' : ∀ d : Int, K' d → 0 ≤ d ∧ d ≤ 36524) (p : Per K fk c) (p' : Per K' fk' c) (c0 : 0 < c) (hb : b = max (max fk fk') (u / 1440 + 1) + 4) (hn : n = m + m' + 1) (hm : m = cn (fun k => O k ≠ -2) 0 36525) (hm' : m' = cn (fun k => O' k ≠ -2) 0 36525) (far : b + n * c < k) : ∃ k' j' x' : Int, RRc K O M l K' O' M' l' u k' j' x' ∧ k' < k ∧ x' < x := by
  have nr := h.near m0 m1 n0 n1 l1 l2
  have hk := hr k h.1.1
  have hj := hr' j h.2.1.1
  have mn : 0 ≤ m := by rw [hm]; exact cn_pos.1
  have mn' : 0 ≤ m' := by rw [hm']; exact cn_pos.1
  have a1f := fun (nn : 0 ≤ n) (lo : n * c ≤ k) => step_back (O := O) (d := k) (c := c) (n := n) nn c0 hk.2 lo hm
  have a2f := fun (nn : 0 ≤ n) (lo : n * c ≤ j) => step_back (O := O') (d := j) (c := c) (n := n) nn c0 hj.2 lo hm'
  clear hm hm'
  have nn : 0 ≤ n := by omega
  have fkb : fk ≤ b - 4 ∧ fk' ≤ b - 4 ∧ u / 1440 + 1 ≤ b - 4 := by omega
  have a1 := a1f nn (by omega)
  have a2 := a2f nn (by omega)
  clear a1f a2f
  have ex : ∃ i : Int, 0 ≤ i ∧ i < n ∧ O (k - (i + 1) * c) = -2 ∧ O' (j - (i + 1) * c) = -2 := by
    rcases Classical.em (∃ i : Int, 0 ≤ i ∧ i < n ∧ O (k - (i + 1) * c) = -2 ∧ O' (j - (i + 1) * c) = -2) with z | z
    · exact z
    · exfalso
      have all := cn_all (p := fun i => O (k - (i + 1) * c) ≠ -2 ∨ O' (j - (i + 1) * c) ≠ -2) (a := 0) (b := n) nn (fun i i0 i1 => by
        rcases Classical.em (O (k - (i + 1) * c) = -2) with w | w
        · rcases Classical.em (O' (j - (i + 1) * c) = -2) with y | y
          · exact absurd ⟨i, i0, i1, w, y⟩ z
          · exact Or.inr y
        · exact Or.inl w)
      have le := cn_or_le (p := fun i => O (k - (i + 1) * c) ≠ -2) (q := fun i => O' (j - (i + 1) * c) ≠ -2) (a := 0) (b := n)
      omega
  obtain ⟨i, i0, i1, i2, i3⟩ := ex
  have s1 : (i + 1) * c ≤ n * c := Int.mul_le_mul_of_nonneg_right (by omega) (Int.le_of_lt c0)
  have s2 : 0 < (i + 1) * c := Int.mul_pos (by omega) c0
  obtain ⟨⟨h1, _⟩, ⟨h2, _⟩, h3, h4, h5, h6⟩ := h
  have q1 := p k (i + 1) (by omega) h1 (by omega) (by omega)
  have q2 := p' j (i + 1) (by omega) h2 (by omega) (by omega)
  refine ⟨k - (i + 1) * c, j - (i + 1) * c, _, ⟨⟨q1, i2⟩, ⟨q2, i3⟩, ?_, ?_, rfl, ?_⟩, by omega, ?_⟩
  · generalize (i + 1) * c = s at s1 s2; omega
  · generalize (i + 1) * c = s at s1 s2; omega
  · generalize (i + 1) * c = s at s1 s2
    generalize n * c = w at s1 far
    omega
  · generalize (i + 1) * c = s at s1 s2; omega
/-- so none beyond the last key to try is the first -/
theorem RI.out {K K' : Int → Prop} {O O' : Int → Int} {M l M' l' u c key first i last : Int} {C : Int → Prop} (h : RI K O M l K' O' M' l' u C c key first i) (hr : ∀ d : Int, K d → 0 ≤ d ∧ d ≤ 36524) (pl : ∀ k j x : Int, RRc K O M l K' O' M' l' u k j x → last < k → ∃ k' j' x' : Int, RRc K O M l K' O' M' l' u k' j' x' ∧ k' < k ∧ x' < x) (q : 36524 < i ∨ key = -1 ∨ last < key ∨ first ≤ 1440 * key + M) : Bw C (fun x => ∃ k j : Int, RRc K O M l K' O' M' l' u k j x) c first := by
  obtain ⟨h1, h2, h3, h4⟩ := h
  refine ⟨h2, h3, ?_⟩
  have key0 : ∀ n : Nat, ∀ k j x : Int, k ≤ n → RRc K O M l K' O' M' l' u k j x → first ≤ x := by
    intro n
    induction n with
    | zero =>
      intro k j x hk z
      rcases Int.lt_or_le last k with w | w
      · obtain ⟨k', j', x', z', y1, y2⟩ := pl k j x z w
        have := hr k' z'.1.1
        omega
      · by_cases c1 : key = -1 ∨ k < key
        · exact h4 x ⟨k, j, z, c1⟩
        · have hb := h1.resolve_left (fun e => c1 (Or.inl e))
          obtain ⟨_, _, _, _, z5, _⟩ := z
          omega
    | succ n ih =>
      intro k j x hk z
      rcases Int.lt_or_le last k with w | w
      · obtain ⟨k', j', x', z', y1, y2⟩ := pl k j x z w
        have := ih k' j' x' (by omega) z'
        omega
      · by_cases c1 : key = -1 ∨ k < key
        · exact h4 x ⟨k, j, z, c1⟩
        · have hb := h1.resolve_left (fun e => c1 (Or.inl e))
          obtain ⟨_, _, _, _, z5, _⟩ := z
          omega
  intro x ⟨k, j, z⟩
  have hk := hr k z.1.1
  exact key0 k.toNat k j x (by omega) z
/-! the rules come again -/
theorem gc_l (a b : Int) (a0 : 0 < a) : ∃ x : Int, a = gc a b * x := by
  obtain ⟨x, hx⟩ := Nat.gcd_dvd_left a.toNat b.toNat
  refine ⟨(x : Int), ?_⟩
  unfold gc
  have : ((a.toNat : Nat) : Int) = ((Nat.gcd a.toNat b.toNat * x : Nat) : Int) := congrArg Int.ofNat hx
  rw [Int.natCast_mul] at this
  omega
theorem gc_r (a b : Int) (b0 : 0 < b) : ∃ x : Int, b = gc a b * x := by
  obtain ⟨x, hx⟩ := Nat.gcd_dvd_right a.toNat b.toNat
  refine ⟨(x : Int), ?_⟩
  unfold gc
  have : ((b.toNat : Nat) : Int) = ((Nat.gcd a.toNat b.toNat * x : Nat) : Int) := congrArg Int.ofNat hx
  rw [Int.natCast_mul] at this
  omega
theorem lc_mul {a b : Int} (a0 : 0 < a) (b0 : 0 < b) : (∃ x : Int, lcF a b = x * a) ∧ (∃ y : Int, lcF a b = y * b) ∧ 0 < lcF a b ∧ a ≤ lcF a b ∧ b ≤ lcF a b := by
  have g0 := gc_pos (b := b) a0
  obtain ⟨x, hx⟩ := gc_l a b a0
  obtain ⟨y, hy⟩ := gc_r a b b0
  have e : lcF a b = a / gc a b * b := by unfold lcF; rw [if_neg (by omega)]
  have ex : a / gc a b = x := by
    have := Int.mul_ediv_cancel_left x (Int.ne_of_gt g0)
    rw [← hx] at this
    exact this
  rw [ex] at e
  have x0 : 0 < x := by
    rcases Int.lt_or_le 0 x with c | c
    · exact c
    · have := Int.mul_nonneg (Int.le_of_lt g0) (show 0 ≤ -x by omega)
      rw [Int.mul_neg] at this
      omega
  have y0 : 0 < y := by
    rcases Int.lt_or_le 0 y with c | c
    · exact c
    · have := Int.mul_nonneg (Int.le_of_lt g0) (show 0 ≤ -y by omega)
      rw [Int.mul_neg] at this
      omega
  have e2 : lcF a b = y * a := by
    rw [e]
    calc x * b = x * (gc a b * y) := by rw [← hy]
      _ = y * (gc a b * x) := by rw [← Int.mul_assoc, Int.mul_comm x (gc a b), Int.mul_comm]
      _ = y * a := by rw [← hx]
  have p1 : b ≤ x * b := by
    have := Int.mul_le_mul_of_nonneg_right (show 1 ≤ x by omega) (Int.le_of_lt b0)
    omega
  have p2 : a ≤ y * a := by
    have := Int.mul_le_mul_of_nonneg_right (show 1 ≤ y by omega) (Int.le_of_lt a0)
    omega
  exact ⟨⟨y, e2⟩, ⟨x, e⟩, by omega, by omega, by omega⟩
theorem per_1 {n s : Int} {d t : Int} (h : onD n s d) (m : t % n = 0) (lo : s ≤ d - t) : onD n s (d - t) := by
  refine ⟨lo, ?_⟩
  rw [show d - t - s = d - s - t by omega, st_sub m]
  exact h.2
theorem per_2 {n s v d t : Int} (h : onW n s v d) (m : ∃ q : Int, t = q * (7 * n)) (lo : s ≤ d - t) : onW n s v (d - t) := by
  obtain ⟨q, hq⟩ := m
  obtain ⟨h1, h2, h3⟩ := h
  obtain ⟨w, hw⟩ : ∃ w : Int, w = q * n := ⟨_, rfl⟩
  have e : t = 7 * w := by rw [hq, hw, Int.mul_left_comm]
  have wn : w % n = 0 := by rw [hw]; exact st_mod n q
  refine ⟨lo, ?_, ?_⟩
  · rw [show (d - t - (s - wd s)) / 7 = (d - (s - wd s)) / 7 - w by omega, st_sub wn]; exact h2
  · rw [show (d - t - (s - wd s)) % 7 = (d - (s - wd s)) % 7 by omega]; exact h3
theorem dv_1 {n s : Int} (n0 : 0 < n) : 1 ≤ n / gc n s := by
  have g0 := gc_pos (b := s) n0
  obtain ⟨x, hx⟩ := gc_l n s n0
  have e : n / gc n s = x := by
    have := Int.mul_ediv_cancel_left x (Int.ne_of_gt g0)
    rw [← hx] at this
    exact this
  rw [e]
  rcases Int.lt_or_le 0 x with c | c
  · omega
  · have := Int.mul_nonneg (Int.le_of_lt g0) (show 0 ≤ -x by omega)
    rw [Int.mul_neg] at this
    omega
theorem cy_big {k n : Int} (h : 3 ≤ k) (n0 : 1 ≤ n) : 146097 ≤ cyK k n := by
  by_cases c : k = 7
  · rw [cy_7 c]
    have := dv_1 (n := 12 * n) (s := 4800) (by omega)
    generalize 12 * n / gc (12 * n) 4800 = z at this
    omega
  · rw [cy_m h c]
    have := dv_1 (n := n) (s := 4800) (by omega)
    generalize n / gc n 4800 = z at this
    omega
theorem per_kg {g : Int → Int} {p fk lk c : Int} (k0 : 0 ≤ g (p + 3)) (n1 : g (p + 3) = 0 ∨ 1 ≤ g (p + 4)) (bd : Bd (KG g p) fk lk) (lw : g (p + 5) ≤ g (p + 10)) (cm : ∃ q : Int, c = q * cyK (g (p + 3)) (g (p + 4))) (c0 : 0 < c) (cb : cyK (g (p + 3)) (g (p + 4)) ≤ c) : Per (KG g p) fk c := by
  intro d m m0 kd lo lo0
  have b := bd.rg kd
  have mc : 0 ≤ m * c := Int.mul_nonneg m0 (Int.le_of_lt c0)
  by_cases e0 : m = 0
  · rw [e0, Int.zero_mul, Int.sub_zero]; exact kd
  · have bq : Bd (Ky (onK (g (p + 3)) (g (p + 4)) (g (p + 5)) (g (p + 6)) (g (p + 7))) (g (p + 10)) (HI (g (p + 8))) (g (p + 9))) fk lk := bd
    have kf : g (p + 10) ≤ fk := by
      rcases bd with ⟨a, _⟩ | ⟨_, _, _, f1, _⟩
      · omega
      · exact f1.at.1
    have hd : onK (g (p + 3)) (g (p + 4)) (g (p + 5)) (g (p + 6)) (g (p + 7)) d := (bq.iff (by omega) b.2.1 b.2.2.1).mp kd
    refine (bq.iff (d := d - m * c) (by omega) lo (by omega)).mpr ?_
    obtain ⟨q, hq⟩ := cm
    have sd : g (p + 5) ≤ d - m * c := by omega
    rcases (show g (p + 3) = 0 ∨ g (p + 3) = 1 ∨ g (p + 3) = 2 ∨ 3 ≤ g (p + 3) by omega) with e | e | e | e
    · rw [cy_0 e, Int.mul_zero] at hq; omega
    · rw [e, onK_1] at hd ⊢
      rw [cy_1 e] at hq
      exact per_1 hd (by rw [hq, ← Int.mul_assoc]; exact st_mod _ _) sd
    · rw [e, onK_2] at hd ⊢
      rw [cy_2 e] at hq
      exact per_2 hd ⟨m * q, by rw [hq, Int.mul_assoc]⟩ sd
    · have big := cy_big e (n1.resolve_left (by omega))
      have : 1 * c ≤ m * c := Int.mul_le_mul_of_nonneg_right (by omega) (Int.le_of_lt c0)
      omega
/-- the last key to try -/
theorem last_ok {K K' : Int → Prop} {O O' : Int → Int} {M l M' l' u fk fk' c b m m' last : Int} (m0 : 0 ≤ M) (m1 : M ≤ 1439) (n0 : 0 ≤ M') (n1 : M' ≤ 1439) (l1 : l ≤ 4320) (l2 : l' ≤ 4320) (u0 : 0 ≤ u) (hr : ∀ d : Int, K d → 0 ≤ d ∧ d ≤ 36524) (hr' : ∀ d : Int, K' d → 0 ≤ d ∧ d ≤ 36524) (p : c ≠ 0 → 0 < c ∧ Per K fk c ∧ Per K' fk' c) (hm : m = cn (fun k => O k ≠ -2) 0 36525) (hm' : m' = cn (fun k => O' k ≠ -2) 0 36525) (hb : b = max (max fk fk') (u / 1440 + 1) + 4) (hl : (c = 0 ∧ last = 36524) ∨ (c ≠ 0 ∧ last = min (b + (m + m' + 1) * c) 36524)) : ∀ k j x : Int, RRc K O M l K' O' M' l' u k j x → last < k → ∃ k' j' x' : Int, RRc K O M l K' O' M' l' u k' j' x' ∧ k' < k ∧ x' < x := by
  intro k j x z w
  have hk := hr k z.1.1
  rcases hl with ⟨h1, h2⟩ | ⟨h1, h2⟩
  · omega
  · obtain ⟨c0, p1, p2⟩ := p h1
    exact z.back m0 m1 n0 n1 l1 l2 u0 hr hr' p1 p2 c0 hb rfl hm hm' (by omega)
/-- all clashes: with a moved one of either, or by both rules -/
theorem cc_all {g : Int → Int} {p p' u x la lb i j : Int} {O O' A A' B B' : Int → Int} {n n' : Int} (o : OdR B A n O) (o' : OdR B' A' n' O') (h : CC (Oc g p O) la (Oc g p' O') lb u x) (ei : i = n) (ej : j = n') : MC A i (Oc g p' O') lb la u x ∨ MC A' j (Oc g p O) la lb u x ∨ ∃ k l : Int, RRc (KG g p) O (g (p + 1)) la (KG g p') O' (g (p' + 1)) lb u k l x := by
  obtain ⟨a, k, h1, t, l, h2, h3, h4, h5, h6⟩ := h
  rcases h1 with ⟨a1, a2, a3⟩ | ⟨a1, a2⟩
  · rcases h2 with ⟨b1, b2, b3⟩ | ⟨b1, b2⟩
    · exact Or.inr (Or.inr ⟨k, l, ⟨a1, a2⟩, ⟨b1, b2⟩, by omega, by omega, by omega, h6⟩)
    · obtain ⟨q, q0, q1, q2⟩ := o'.2.1 l (by omega)
      have w := o'.at q0 q1 q2
      exact Or.inr (Or.inl ⟨q, q0, by omega, by omega, a, k, Or.inl ⟨a1, a2, a3⟩, by omega, by omega, by omega, h6⟩)
  · obtain ⟨q, q0, q1, q2⟩ := o.2.1 k (by omega)
    have w := o.at q0 q1 q2
    exact Or.inl ⟨q, q0, by omega, by omega, t, l, h2, by omega, by omega, by omega, h6⟩
theorem mc_cc {g : Int → Int} {p u x la lb i n : Int} {Q : Int → Int → Prop} {O A B : Int → Int} (o : OdR B A n O) (hi : i ≤ n) (h : MC A i Q lb la u x) : CC (Oc g p O) la Q lb u x := by
  obtain ⟨l, l0, l1, l2, l3⟩ := h
  have w := o.at l0 (by omega) rfl
  exact ⟨A l, B l, Or.inr ⟨by omega, w.1⟩, l3⟩
/-! the reference's answer -/
def CA (C : Int → Prop) (r : Int) : Prop := (r = -1 ∧ ∀ x : Int, ¬ C x) ∨ (0 ≤ r ∧ C r ∧ ∀ x : Int, C x → r ≤ x)
theorem CA.one {C D : Int → Prop} {r r' : Int} (h : CA C r) (g : CA D r') (e : ∀ x : Int, C x ↔ D x) : r = r' := by
  rcases h with ⟨h1, h2⟩ | ⟨h1, h2, h3⟩ <;> rcases g with ⟨g1, g2⟩ | ⟨g1, g2, g3⟩
  · omega
  · exact absurd ((e _).mpr g2) (h2 _)
  · exact absurd ((e _).mp h2) (g2 _)
  · have a := h3 _ ((e _).mpr g2)
    have b := g3 _ ((e _).mp h2)
    omega
theorem Bw.ca {C S : Int → Prop} {r v : Int} (h : Bw C S 2147483647 r) (e : ∀ x : Int, C x → S x) (hb : ∀ x : Int, C x → 0 ≤ x ∧ x ≤ 52595999) (hv : (r = 2147483647 ∧ v = -1) ∨ (r ≠ 2147483647 ∧ v = r)) : CA C v := by
  obtain ⟨h1, h2, h3⟩ := h
  rcases hv with ⟨a, b⟩ | ⟨a, b⟩
  · exact Or.inl ⟨b, fun x z => by have := h3 x (e x z); have := hb x z; omega⟩
  · have c := h2.resolve_left a
    rw [b]
    exact Or.inr ⟨(hb r c).1, c, fun x z => h3 x (e x z)⟩
theorem Mn.to {C : Int → Prop} {r r' : Int} (h : Mn C r) (e : r' = r) : Mn C r' := by rw [e]; exact h
theorem Mn.cl {P : Int → Int → Prop} {lb a a' la la' u r : Int} (h : Mn (CL P lb a la u) r) (ea : a' = a) (el : la' = la) : Mn (CL P lb a' la' u) r := by rw [ea, el]; exact h
theorem mc_0 {A : Int → Int} {i lb la u x : Int} {Q : Int → Int → Prop} (h : i ≤ 0) : ¬ MC A i Q lb la u x := fun ⟨l, l0, l1, _⟩ => by omega
theorem mc_to {A : Int → Int} {i i' lb la u x : Int} {Q : Int → Int → Prop} (z : MC A i Q lb la u x) (e : i = i') : MC A i' Q lb la u x := by rw [← e]; exact z
theorem mc_sub {g : Int → Int} {p la lb u n l : Int} {Q : Int → Int → Prop} {O A B : Int → Int} (o : OdR B A n O) (l0 : 0 ≤ l) (l1 : l < n) (ne : A l ≠ -1) : ∀ x : Int, CL Q lb (A l) la u x → CC (Oc g p O) la Q lb u x := fun x z => by
  have w := o.at l0 l1 rfl
  exact ⟨A l, B l, Or.inr ⟨by omega, w.1⟩, z⟩
/-! ===== the class's walks ===== -/
theorem bd_fk {K : Int → Prop} {fk lk : Int} (b : Bd K fk lk) (_hr : ∀ d : Int, K d → 0 ≤ d ∧ d ≤ 36524) : -1 ≤ fk ∧ fk ≤ 36524 := by
  rcases b with ⟨a, _⟩ | ⟨a, b, c, _⟩ <;> omega
theorem lk_b {z c : Int} (z0 : 0 ≤ z) (z1 : z ≤ 33) (c0 : 0 ≤ c) (c1 : c ≤ 22000000000000) : 0 ≤ z * c ∧ z * c ≤ 726000000000000 := by
  have a := Int.mul_nonneg z0 c0
  have b := Int.mul_le_mul_of_nonneg_right z1 c0
  omega
theorem lk_min {x y z : Int} (hy : rgl y) (hx : rgl x) (e : z = (if lJ y < lJ x then lJ y else lJ x).toInt) : z = min x y := by
  by_cases c : y < x
  · rw [if_pos ((lJ_lt hy hx).mpr c), lJ_toInt hy] at e
    omega
  · rw [if_neg (fun w => c ((lJ_lt hy hx).mp w)), lJ_toInt hx] at e
    omega
theorem lk_fin {r z x y p q c m B : Int} (h76 : r = (lJ z).toInt32.toInt) (h73 : z = min x y) (h68 : p = q * c) (e66 : q = m) (ey : y = 36524) (ex : x = B + p) (x0 : 0 ≤ x) : r = min (B + m * c) 36524 := by
  subst e66
  rw [← h68, ← ex]
  have a := as_lo (v := z) (by omega) (by omega) h76
  unfold asF at a
  rw [if_neg (by omega)] at a
  omega
theorem cy_3 {k n : Int} (h : 3 ≤ k) (n1 : 1 ≤ n) (n2 : n ≤ 999) : ∃ x : Int, cyK k n = 146097 * x ∧ 1 ≤ x ∧ x ≤ 11988 := by
  by_cases c : k = 7
  · exact ⟨_, cy_7 c, dv_1 (by omega), (dv_b (by omega) (by omega)).2⟩
  · exact ⟨_, cy_m h c, dv_1 (by omega), (dv_b (by omega) (by omega)).2⟩
theorem gc_big {x y : Int} (x0 : 0 < x) (y0 : 0 < y) : 146097 ≤ gc (146097 * x) (146097 * y) := by
  have d : 146097 ∣ Nat.gcd (146097 * x).toNat (146097 * y).toNat := Nat.dvd_gcd ⟨x.toNat, by omega⟩ ⟨y.toNat, by omega⟩
  have p : 0 < gc (146097 * x) (146097 * y) := gc_pos (by omega)
  unfold gc at p ⊢
  have := Nat.le_of_dvd (by omega) d
  omega
theorem lc_ck {k n v w k' n' v' w' : Int} (h : okW k n v w) (h' : okW k' n' v' w') : 0 ≤ lcF (cyK k n) (cyK k' n') ∧ lcF (cyK k n) (cyK k' n') ≤ 22000000000000 := by
  have a := cy_b (k := k) (n := n) h.1 h.2.2.1
  have b := cy_b (k := k') (n := n') h'.1 h'.2.2.1
  refine ⟨lc_nn a.1 b.1, ?_⟩
  by_cases c : cyK k n = 0 ∨ cyK k' n' = 0
  · unfold lcF; rw [if_pos c]; decide
  · have a0 : 0 < cyK k n := by omega
    have b0 : 0 < cyK k' n' := by omega
    have e : lcF (cyK k n) (cyK k' n') = cyK k n / gc (cyK k n) (cyK k' n') * cyK k' n' := by unfold lcF; rw [if_neg c]
    rw [e]
    have g0 := gc_pos (b := cyK k' n') a0
    obtain ⟨X, hX⟩ := gc_l (cyK k n) (cyK k' n') a0
    have eX : cyK k n / gc (cyK k n) (cyK k' n') = X := by
      have := Int.mul_ediv_cancel_left X (Int.ne_of_gt g0)
      rw [← hX] at this
      exact this
    have X0 : 0 ≤ X := by rw [← eX]; exact Int.ediv_nonneg a.1 (Int.le_of_lt g0)
    have Xa : X ≤ cyK k n := by rw [← eX]; exact Int.ediv_le_self _ a.1
    rw [eX]
    have small : ∀ A B : Int, 0 ≤ A → A ≤ 11988 → 0 ≤ B → B ≤ 1800000000 → A * B ≤ 22000000000000 := fun A B a0 a1 b0 b1 => by
      have p := Int.mul_le_mul_of_nonneg_right a1 b0
      omega
    by_cases k3 : 3 ≤ k
    · by_cases l3 : 3 ≤ k'
      · obtain ⟨x, ex, x0, x1⟩ := cy_3 k3 (h.2.2.1.resolve_left (by omega)).1 (h.2.2.1.resolve_left (by omega)).2
        obtain ⟨y, ey, y0, y1⟩ := cy_3 l3 (h'.2.2.1.resolve_left (by omega)).1 (h'.2.2.1.resolve_left (by omega)).2
        have gb := gc_big (x := x) (y := y) (by omega) (by omega)
        rw [← ex, ← ey] at gb
        have p := Int.mul_le_mul_of_nonneg_right gb X0
        exact small X _ X0 (by omega) b.1 b.2
      · have sb : cyK k' n' ≤ 11988 := by
          rcases (show k' = 0 ∨ k' = 1 ∨ k' = 2 by have := h'.1; omega) with z | z | z
          · rw [cy_0 z]; decide
          · rw [cy_1 z]; have := h'.2.2.1.resolve_left (by omega); omega
          · rw [cy_2 z]; have := h'.2.2.1.resolve_left (by omega); omega
        have q := small (cyK k' n') X b.1 sb X0 (by omega)
        rw [Int.mul_comm] at q
        exact q
    · have sa : cyK k n ≤ 11988 := by
        rcases (show k = 0 ∨ k = 1 ∨ k = 2 by have := h.1; omega) with z | z | z
        · rw [cy_0 z]; decide
        · rw [cy_1 z]; have := h.2.2.1.resolve_left (by omega); omega
        · rw [cy_2 z]; have := h.2.2.1.resolve_left (by omega); omega
      exact small X _ X0 (by omega) b.1 b.2
theorem RB.ow {f : Nat → va_E} {b : Nat} {g : Int → Int} {p : Int} (r : RB f b g p) : okW (g (p + 3)) (g (p + 4)) (g (p + 6)) (g (p + 7)) := by
  obtain ⟨_, _, q⟩ := r.rule
  exact q.words
theorem RRc.symm {K K' : Int → Prop} {O O' : Int → Int} {M l M' l' u k j x : Int} (h : RRc K O M l K' O' M' l' u k j x) : RRc K' O' M' l' K O M l u j k x := by
  obtain ⟨h1, h2, h3, h4, h5, h6⟩ := h
  exact ⟨h2, h1, h4, h3, by omega, h6⟩
/-- a Booking, its row, its odds -/
def BO (f : Nat → va_E) (a : Nat) (g : Int → Int) (p : Int) (O : Int → Int) : Prop := RB f a g p ∧ OC f a O ∧ OKk g p O ∧ 0 ≤ g (p + 1) ∧ g (p + 1) ≤ 1439 ∧ 1 ≤ g (p + 2) ∧ g (p + 2) ≤ 4320
theorem BO.eh {cy : Cy} {f f1 : Nat → va_E} {a : Nat} {g : Int → Int} {p : Int} {O : Int → Int} (h : BO f a g p O) (z : Eh cy f f1) : BO f1 a g p O := ⟨h.1.eh z, h.2.1.eh z, h.2.2⟩
theorem BO.hr {f : Nat → va_E} {a : Nat} {g : Int → Int} {p : Int} {O : Int → Int} (h : BO f a g p O) : ∀ d : Int, KG g p d → 0 ≤ d ∧ d ≤ 36524 := fun d z => by have := h.1.2.1.rg z; omega
/-- the clashes of both rules, of a and b -/
def RRS (g : Int → Int) (p : Int) (O : Int → Int) (q : Int) (O' : Int → Int) (u x : Int) : Prop := ∃ k j : Int, RRc (KG g p) O (g (p + 1)) (g (p + 2)) (KG g q) O' (g (q + 1)) (g (q + 2)) u k j x
theorem fm_of {f : Nat → va_E} {a b few many : Nat} {g : Int → Int} {p q u : Int} {O O' : Int → Int} (ha : BO f a g p O) (hb : BO f b g q O') (l0 : g (p + 5) ≤ g (p + 10)) (l1 : g (q + 5) ≤ g (q + 10)) (h : (few = a ∧ many = b) ∨ (few = b ∧ many = a)) : ∃ (pf pm : Int) (Of Om : Int → Int), BO f few g pf Of ∧ BO f many g pm Om ∧ (g (pf + 5) ≤ g (pf + 10) ∧ g (pm + 5) ≤ g (pm + 10)) ∧ (∀ x : Int, CC (Oc g pf Of) (g (pf + 2)) (Oc g pm Om) (g (pm + 2)) u x → CC (Oc g p O) (g (p + 2)) (Oc g q O') (g (q + 2)) u x) ∧ ∀ x : Int, RRS g p O q O' u x → RRS g pf Of pm Om u x := by
  rcases h with ⟨h1, h2⟩ | ⟨h1, h2⟩
  · rw [h1, h2]
    exact ⟨p, q, O, O', ha, hb, ⟨l0, l1⟩, fun _ z => z, fun _ z => z⟩
  · rw [h1, h2]
    exact ⟨q, p, O', O, hb, ha, ⟨l1, l0⟩, fun _ z => z.symm, fun _ ⟨k, j, z⟩ => ⟨j, k, z.symm⟩⟩
theorem pl_of {f : Nat → va_E} {few many : Nat} {g : Int → Int} {pf pm u last : Int} {Of Om : Int → Int} (hf : BO f few g pf Of) (hm : BO f many g pm Om) (u0 : 0 ≤ u) (b0 : 0 ≤ fI f few 10) (b1 : 0 ≤ fI f many 10) (lf : g (pf + 5) ≤ g (pf + 10)) (lm : g (pm + 5) ≤ g (pm + 10)) (h : (lcF (cyK (g (pf + 3)) (g (pf + 4))) (cyK (g (pm + 3)) (g (pm + 4))) = 0 ∧ last = 36524) ∨ (lcF (cyK (g (pf + 3)) (g (pf + 4))) (cyK (g (pm + 3)) (g (pm + 4))) ≠ 0 ∧ last = min (max (max (fI f few 7) (fI f many 7)) (u / 1440 + 1) + 4 + (fI f few 10 + fI f many 10 + 1) * lcF (cyK (g (pf + 3)) (g (pf + 4))) (cyK (g (pm + 3)) (g (pm + 4)))) 36524)) : ∀ k j x : Int, RRc (KG g pf) Of (g (pf + 1)) (g (pf + 2)) (KG g pm) Om (g (pm + 1)) (g (pm + 2)) u k j x → last < k → ∃ k' j' x' : Int, RRc (KG g pf) Of (g (pf + 1)) (g (pf + 2)) (KG g pm) Om (g (pm + 1)) (g (pm + 2)) u k' j' x' ∧ k' < k ∧ x' < x := by
  have of1 : OdR (aI f (KA f few)) (aI f (TA f few)) (fI f few 10) Of := hf.2.1
  have om1 : OdR (aI f (KA f many)) (aI f (TA f many)) (fI f many 10) Om := hm.2.1
  have wf := hf.1.ow
  have wm := hm.1.ow
  have cf := cy_b (k := g (pf + 3)) (n := g (pf + 4)) wf.1 wf.2.2.1
  have cm := cy_b (k := g (pm + 3)) (n := g (pm + 4)) wm.1 wm.2.2.1
  refine last_ok hf.2.2.2.1 hf.2.2.2.2.1 hm.2.2.2.1 hm.2.2.2.2.1 hf.2.2.2.2.2.2 hm.2.2.2.2.2.2 u0 hf.hr hm.hr (fun c => ?_) (of1.card b0 hf.2.2.1.kb) (om1.card b1 hm.2.2.1.kb) rfl h
  have nz : ¬ (cyK (g (pf + 3)) (g (pf + 4)) = 0 ∨ cyK (g (pm + 3)) (g (pm + 4)) = 0) := fun z => c (by unfold lcF; rw [if_pos z])
  obtain ⟨m1, m2, m3, m4, m5⟩ := lc_mul (a := cyK (g (pf + 3)) (g (pf + 4))) (b := cyK (g (pm + 3)) (g (pm + 4))) (by omega) (by omega)
  exact ⟨m3, per_kg wf.1 (wf.2.2.1.imp id (fun z => z.1)) hf.1.2.1 lf m1 m3 m4, per_kg wm.1 (wm.2.2.1.imp id (fun z => z.1)) hm.1.2.1 lm m2 m3 m5⟩
theorem Fst.m1 {K : Int → Prop} {a r : Int} (h : Fst K a r) (e : r = -1) : Fst K a (-1) := by rw [← e]; exact h
theorem oc_at {g : Int → Int} {p k t : Int} {O : Int → Int} (h : KG g p k) (o : O k = -2) (e : t = 1440 * k + g (p + 1)) : Oc g p O t k := Or.inl ⟨h, o, e⟩
/-- all of a clash: the answer -/
theorem ca_fin {f : Nat → va_E} {a b : Nat} {g : Int → Int} {p q u r1 r v : Int} {O O' : Int → Int} (ha : BO f a g p O) (hb : BO f b g q O') (h : Bw (CC (Oc g p O) (g (p + 2)) (Oc g q O') (g (q + 2)) u) (fun x => MC (aI f (TA f a)) (fI f a 10) (Oc g q O') (g (q + 2)) (g (p + 2)) u x ∨ MC (aI f (TA f b)) (fI f b 10) (Oc g p O) (g (p + 2)) (g (q + 2)) u x) 2147483647 r1) (h2 : Bw (CC (Oc g p O) (g (p + 2)) (Oc g q O') (g (q + 2)) u) (RRS g p O q O' u) r1 r) (hv : (r = 2147483647 ∧ v = -1) ∨ (r ≠ 2147483647 ∧ v = r)) : CA (CC (Oc g p O) (g (p + 2)) (Oc g q O') (g (q + 2)) u) v := by
  have od : OdR (aI f (KA f a)) (aI f (TA f a)) (fI f a 10) O := ha.2.1
  have od' : OdR (aI f (KA f b)) (aI f (TA f b)) (fI f b 10) O' := hb.2.1
  have pa := ha.1.pk ha.2.2.1 ha.2.2.2.1 ha.2.2.2.2.1
  have pb := hb.1.pk hb.2.2.1 hb.2.2.2.1 hb.2.2.2.2.1
  refine (h.join h2).ca (fun x z => ?_) (fun x ⟨s, k, z1, t, j, z2, _, _, e, _⟩ => ?_) hv
  · rcases cc_all od od' z rfl rfl with w | w | w
    · exact Or.inl (Or.inl w)
    · exact Or.inl (Or.inr w)
    · exact Or.inr w
  · have := pa _ _ z1
    have := pb _ _ z2
    omega
theorem RI.to {K K' : Int → Prop} {O O' : Int → Int} {M l M' l' u c key first i i' : Int} {C : Int → Prop} (h : RI K O M l K' O' M' l' u C c key first i) (e : i' = i) : RI K O M l K' O' M' l' u C c key first i' := by rw [e]; exact h
/-! ===== the first clash: the reference's walk over both rows ===== -/
def HT (A B : Int → Int) (nb lb u i : Int) : Prop := u ≤ A i ∧ ∃ l : Int, 0 ≤ l ∧ l < nb ∧ B l ≤ A i ∧ A i < B l + lb
def PJ (A B : Int → Int) (na j i : Int) : Prop := 0 ≤ j ∧ ∀ l : Int, 0 ≤ l → l < j → ∀ a : Int, i ≤ a → a < na → B l ≤ A a
theorem PJ.start {A B : Int → Int} {na j i : Int} (e : j = 0) : PJ A B na j i := ⟨by omega, fun l l0 l1 => by omega⟩
theorem PJ.step {A B : Int → Int} {na j j' i a b : Int} (h : PJ A B na j i) (up : ∀ a : Int, i ≤ a → a < na → A i ≤ A a) (ea : A i = a) (eb : B j = b) (le : b ≤ a) (ej : j' = j + 1) : PJ A B na j' i := by
  subst ej
  refine ⟨by have := h.1; omega, fun l l0 l1 c c0 c1 => ?_⟩
  by_cases q : l = j
  · rw [q]; have := up c c0 c1; omega
  · exact h.2 l l0 (by omega) c c0 c1
theorem PJ.to {A B : Int → Int} {na j i i' : Int} (h : PJ A B na j i) (e : i ≤ i') : PJ A B na j i' := ⟨h.1, fun l l0 l1 a a0 a1 => h.2 l l0 l1 a (by omega) a1⟩
def PK (A B : Int → Int) (nb j i : Int) : Prop := ∀ l : Int, j ≤ l → l < nb → A i < B l
theorem PK.none {A B : Int → Int} {nb j i : Int} (h : nb ≤ j) : PK A B nb j i := fun l l0 l1 => by omega
theorem PK.some {A B : Int → Int} {nb j i a b : Int} (up : ∀ l : Int, j ≤ l → l < nb → B j ≤ B l) (ea : A i = a) (eb : B j = b) (h : a < b) : PK A B nb j i := fun l l0 l1 => by
  have := up l l0 l1
  omega
theorem ht_lt {A B : Int → Int} {nb lb u i a : Int} (ea : A i = a) (h : a < u) : ¬ HT A B nb lb u i := fun z => by
  have := z.1
  omega
theorem ht_0 {A B : Int → Int} {nb lb u i j : Int} (pk : PK A B nb j i) (h : j ≤ 0) : ¬ HT A B nb lb u i := fun ⟨_, l, l0, l1, l2, _⟩ => by
  have := pk l (by omega) l1
  omega
theorem ht_no {A B : Int → Int} {nb lb u i j a b : Int} (pk : PK A B nb j i) (up : ∀ l : Int, 0 ≤ l → l ≤ j - 1 → B l ≤ B (j - 1)) (ea : A i = a) (eb : B (j - 1) = b) (h : b + lb ≤ a) : ¬ HT A B nb lb u i := fun ⟨_, l, l0, l1, l2, l3⟩ => by
  rcases Int.lt_or_le l j with q | q
  · have := up l l0 (by omega)
    omega
  · have := pk l q l1
    omega
theorem ht_yes {A B : Int → Int} {na nb lb u i j a b : Int} (pj : PJ A B na j i) (i1 : i < na) (j0 : 0 < j) (j1 : j ≤ nb) (ea : A i = a) (eb : B (j - 1) = b) (hu : u ≤ a) (h : a < b + lb) : HT A B nb lb u i :=
  ⟨by omega, j - 1, by omega, by omega, pj.2 (j - 1) (by omega) (by omega) i (Int.le_refl i) i1, by omega⟩
def NH (A B : Int → Int) (nb lb u n : Int) : Prop := ∀ i : Int, 0 ≤ i → i < n → ¬ HT A B nb lb u i
theorem NH.start {A B : Int → Int} {nb lb u n : Int} (h : n ≤ 0) : NH A B nb lb u n := fun i i0 i1 => by omega
theorem NH.step {A B : Int → Int} {nb lb u n n' : Int} (h : NH A B nb lb u n) (z : ¬ HT A B nb lb u n) (en : n' = n + 1) : NH A B nb lb u n' := fun i i0 i1 => by
  by_cases q : i = n
  · rw [q]; exact z
  · exact h i i0 (by omega)
theorem NH.to {A B : Int → Int} {nb lb u n n' : Int} (h : NH A B nb lb u n) (en : n' ≤ n) : NH A B nb lb u n' := fun i i0 i1 => h i i0 (by omega)
def BEx (A B : Int → Int) (na nb lb u best : Int) : Prop := (best = -1 ∧ NH A B nb lb u na) ∨ (0 ≤ best ∧ (∃ i : Int, 0 ≤ i ∧ i < na ∧ A i = best ∧ HT A B nb lb u i) ∧ ∀ i : Int, 0 ≤ i → i < na → HT A B nb lb u i → best ≤ A i)
theorem BEx.none {A B : Int → Int} {na nb lb u n best : Int} (h : NH A B nb lb u n) (e : na ≤ n) (eb : best = -1) : BEx A B na nb lb u best := Or.inl ⟨eb, h.to e⟩
theorem BEx.hit {A B : Int → Int} {na nb lb u i best : Int} (h : NH A B nb lb u i) (i0 : 0 ≤ i) (i1 : i < na) (z : HT A B nb lb u i) (up : ∀ a : Int, i ≤ a → a < na → A i ≤ A a) (ea : A i = best) (b0 : 0 ≤ best) : BEx A B na nb lb u best := Or.inr ⟨b0, ⟨i, i0, i1, ea, z⟩, fun j j0 j1 w => by
  rcases Int.lt_or_le j i with q | q
  · exact absurd w (h j j0 q)
  · have := up j q j1
    omega⟩
def HC (A B : Int → Int) (na nb la lb u x : Int) : Prop := (∃ i : Int, 0 ≤ i ∧ i < na ∧ HT A B nb lb u i ∧ x = A i) ∨ ∃ j : Int, 0 ≤ j ∧ j < nb ∧ HT B A na la u j ∧ x = B j
theorem hc_best {A B : Int → Int} {na nb la lb u best j : Int} (h : BEx A B na nb lb u best) (n : NH B A na la u j) (up : ∀ l : Int, j ≤ l → l < nb → B j ≤ B l) (e : nb ≤ j ∨ (0 ≤ best ∧ best ≤ B j)) : CA (HC A B na nb la lb u) best := by
  rcases h with ⟨h1, h2⟩ | ⟨h1, ⟨i, i0, i1, i2, i3⟩, h3⟩
  · refine Or.inl ⟨h1, fun x z => ?_⟩
    rcases z with ⟨i, i0, i1, z, _⟩ | ⟨l, l0, l1, z, _⟩
    · exact h2 i i0 i1 z
    · exact n l l0 (by omega) z
  · refine Or.inr ⟨h1, Or.inl ⟨i, i0, i1, i3, i2.symm⟩, fun x z => ?_⟩
    rcases z with ⟨i, i0, i1, z, e⟩ | ⟨l, l0, l1, z, e2⟩
    · rw [e]; exact h3 i i0 i1 z
    · rw [e2]
      rcases Int.lt_or_le l j with q | q
      · exact absurd z (n l l0 q)
      · have := up l q l1
        omega
theorem hc_hit {A B : Int → Int} {na nb la lb u best j b : Int} (h : BEx A B na nb lb u best) (n : NH B A na la u j) (j0 : 0 ≤ j) (j1 : j < nb) (z : HT B A na la u j) (up : ∀ l : Int, j ≤ l → l < nb → B j ≤ B l) (eb : B j = b) (b0 : 0 ≤ b) (e : best < 0 ∨ b < best) : CA (HC A B na nb la lb u) b := by
  refine Or.inr ⟨b0, Or.inr ⟨j, j0, j1, z, eb.symm⟩, fun x w => ?_⟩
  rcases w with ⟨i, i0, i1, w, e1⟩ | ⟨l, l0, l1, w, e2⟩
  · rcases h with ⟨h1, h2⟩ | ⟨h1, _, h3⟩
    · exact absurd w (h2 i i0 i1)
    · have := h3 i i0 i1 w
      omega
  · rcases Int.lt_or_le l j with q | q
    · exact absurd w (n l l0 q)
    · have := up l q l1
      omega
theorem hc_cc {P Q : Int → Int → Prop} {A B ks kt : Int → Int} {na nb la lb u : Int} (l1 : LL P A ks na) (l2 : LL Q B kt nb) (la1 : 1 ≤ la) (lb1 : 1 ≤ lb) : ∀ x : Int, HC A B na nb la lb u x ↔ CC P la Q lb u x := fun x => by
  constructor
  · rintro (⟨i, i0, i1, ⟨z1, l, l0, l3, z2, z3⟩, e⟩ | ⟨j, j0, j1, ⟨z1, l, l0, l3, z2, z3⟩, e⟩)
    · exact ⟨A i, ks i, l1.2.1 i i0 i1, B l, kt l, l2.2.1 l l0 l3, by omega, by omega, by omega, by omega⟩
    · exact ⟨A l, ks l, l1.2.1 l l0 l3, B j, kt j, l2.2.1 j j0 j1, by omega, by omega, by omega, by omega⟩
  · rintro ⟨a, k, h1, t, d, h2, h3, h4, h5, h6⟩
    obtain ⟨i, i0, i1, i2, _⟩ := l1.2.2.2 a k h1
    obtain ⟨j, j0, j1, j2, _⟩ := l2.2.2.2 t d h2
    rcases Int.lt_or_le a t with q | q
    · exact Or.inr ⟨j, j0, j1, ⟨by omega, i, i0, i1, by omega, by omega⟩, by omega⟩
    · exact Or.inl ⟨i, i0, i1, ⟨by omega, j, j0, j1, by omega, by omega⟩, by omega⟩
theorem CA.iff {C D : Int → Prop} {r : Int} (h : CA C r) (e : ∀ x : Int, C x ↔ D x) : CA D r := h.imp (fun z => ⟨z.1, fun x w => z.2 x ((e x).mpr w)⟩) (fun z => ⟨z.1, (e _).mp z.2.1, fun x w => z.2.2 x ((e x).mpr w)⟩)
theorem CA.cc {P Q : Int → Int → Prop} {la la' lb lb' u r : Int} (h : CA (CC P la' Q lb' u) r) (e1 : la' = la) (e2 : lb' = lb) : CA (CC P la Q lb u) r := by rw [← e1, ← e2]; exact h
theorem clash_eq {g : Int → Int} {Os : Int → Int → Int} {m a a' b b' c c' r r' : Int} (h : (r = -1 ∧ ¬ ((0 ≤ a ∧ a < m ∧ 0 ≤ b ∧ b < m ∧ a ≠ b) ∧ (0 ≤ c ∧ c ≤ 52595999))) ∨ (((0 ≤ a ∧ a < m ∧ 0 ≤ b ∧ b < m ∧ a ≠ b) ∧ (0 ≤ c ∧ c ≤ 52595999)) ∧ CA (CC (Oc g (44 * a) (Os a)) (g (44 * a + 2)) (Oc g (44 * b) (Os b)) (g (44 * b + 2)) c) r)) (q : (r' = -1 ∧ ¬ ((0 ≤ a' ∧ a' < m ∧ 0 ≤ b' ∧ b' < m ∧ a' ≠ b') ∧ (0 ≤ c' ∧ c' ≤ 52595999))) ∨ (((0 ≤ a' ∧ a' < m ∧ 0 ≤ b' ∧ b' < m ∧ a' ≠ b') ∧ (0 ≤ c' ∧ c' ≤ 52595999)) ∧ CA (CC (Oc g (44 * a') (Os a')) (g (44 * a' + 2)) (Oc g (44 * b') (Os b')) (g (44 * b' + 2)) c') r')) (e1 : a = a') (e2 : b = b') (e3 : c = c') : r = r' := by
  subst e1
  subst e2
  subst e3
  rcases h with ⟨h1, h2⟩ | ⟨h1, h2⟩ <;> rcases q with ⟨q1, q2⟩ | ⟨q1, q2⟩
  · omega
  · exact absurd q1 h2
  · exact absurd h1 q2
  · exact h2.one q2 (fun _ => Iff.rfl)
/-! ===== the first clash in a room ===== -/
def RD (g : Int → Int) (Os : Int → Int → Int) (room u i j x : Int) : Prop := g (44 * i) = room ∧ g (44 * j) = room ∧ CC (Oc g (44 * i) (Os i)) (g (44 * i + 2)) (Oc g (44 * j) (Os j)) (g (44 * j + 2)) u x
def PSx (m i j a b : Int) : Prop := 0 ≤ a ∧ a < b ∧ b < m ∧ (a < i ∨ (a = i ∧ b < j))
def RCI (D : Int → Int → Int → Prop) (S : Int → Int → Prop) (N first one other : Int) : Prop := (first = N ∧ one = -1 ∧ other = -1 ∧ ∀ i j x : Int, S i j → ¬ D i j x) ∨ (0 ≤ first ∧ first ≤ 52595999 ∧ S one other ∧ D one other first ∧ ∀ i j x : Int, S i j → D i j x → first < x ∨ (first = x ∧ (one < i ∨ (one = i ∧ other ≤ j))))
theorem RCI.start {D : Int → Int → Int → Prop} {m i j N first one other : Int} (hi : i = 0) (hj : j ≤ 1) (e1 : first = N) (e2 : one = -1) (e3 : other = -1) : RCI D (PSx m i j) N first one other := Or.inl ⟨e1, e2, e3, fun a b x ⟨a0, ab, bm, z⟩ => by omega⟩
theorem RCI.cg {D : Int → Int → Int → Prop} {S S' : Int → Int → Prop} {N first one other : Int} (h : RCI D S N first one other) (e1 : ∀ a b : Int, S a b → S' a b) (e2 : ∀ a b x : Int, S' a b → D a b x → S a b) : RCI D S' N first one other := by
  rcases h with ⟨h1, h2, h3, h4⟩ | ⟨h1, h2, h3, h4, h5⟩
  · exact Or.inl ⟨h1, h2, h3, fun a b x s d => h4 a b x (e2 a b x s d) d⟩
  · exact Or.inr ⟨h1, h2, e1 _ _ h3, h4, fun a b x s d => h5 a b x (e2 a b x s d) d⟩
/-- the next row -/
theorem RCI.row {D : Int → Int → Int → Prop} {m i i' j j' N first one other : Int} (h : RCI D (PSx m i j) N first one other) (e : m ≤ j) (ei : i' = i + 1) (ej : j' = i' + 1) : RCI D (PSx m i' j') N first one other := by
  subst ei
  subst ej
  exact h.cg (fun a b ⟨a0, ab, bm, z⟩ => ⟨a0, ab, bm, by omega⟩) (fun a b x ⟨a0, ab, bm, z⟩ _ => ⟨a0, ab, bm, by omega⟩)
/-- a row of another room -/
theorem RCI.skipRow {g : Int → Int} {Os : Int → Int → Int} {room u m i i' j j' N first one other : Int} (h : RCI (RD g Os room u) (PSx m i j) N first one other) (ne : g (44 * i) ≠ room) (ei : i' = i + 1) (ej : j' = i' + 1) : RCI (RD g Os room u) (PSx m i' j') N first one other := by
  subst ei
  subst ej
  refine h.cg (fun a b ⟨a0, ab, bm, z⟩ => ⟨a0, ab, bm, by omega⟩) (fun a b x ⟨a0, ab, bm, z⟩ d => ⟨a0, ab, bm, ?_⟩)
  by_cases q : a = i
  · rw [q] at d; exact absurd d.1 ne
  · omega
theorem RCI.skip {g : Int → Int} {Os : Int → Int → Int} {room u m i j j' N first one other : Int} (h : RCI (RD g Os room u) (PSx m i j) N first one other) (ne : g (44 * i) ≠ room ∨ g (44 * j) ≠ room) (ej : j' = j + 1) : RCI (RD g Os room u) (PSx m i j') N first one other := by
  subst ej
  refine h.cg (fun a b ⟨a0, ab, bm, z⟩ => ⟨a0, ab, bm, by omega⟩) (fun a b x ⟨a0, ab, bm, z⟩ d => ⟨a0, ab, bm, ?_⟩)
  by_cases q : a = i ∧ b = j
  · rw [q.1, q.2] at d
    exact absurd d (fun w => ne.elim (fun z => z w.1) (fun z => z w.2.1))
  · omega
theorem RCI.to {D : Int → Int → Int → Prop} {m i i' j j' N first one other : Int} (h : RCI D (PSx m i j) N first one other) (ei : i' = i) (ej : j' = j) : RCI D (PSx m i' j') N first one other := by rw [ei, ej]; exact h
/-- none ahead of the best one -/
theorem RCI.no {D : Int → Int → Int → Prop} {m i j j' N first one other : Int} (h : RCI D (PSx m i j) N first one other) (nw : ∀ x : Int, D i j x → first ≠ N ∧ first ≤ x) (ej : j' = j + 1) : RCI D (PSx m i j') N first one other := by
  subst ej
  rcases h with ⟨h1, h2, h3, h4⟩ | ⟨h1, h2, h3, h4, h5⟩
  · refine Or.inl ⟨h1, h2, h3, fun a b x ⟨a0, ab, bm, z⟩ d => ?_⟩
    by_cases q : a = i ∧ b = j
    · rw [q.1, q.2] at d; exact (nw x d).1 h1
    · exact h4 a b x ⟨a0, ab, bm, by omega⟩ d
  · obtain ⟨s0, s1, s2, s3⟩ := h3
    refine Or.inr ⟨h1, h2, ⟨s0, s1, s2, by omega⟩, h4, fun a b x ⟨a0, ab, bm, z⟩ d => ?_⟩
    by_cases q : a = i ∧ b = j
    · rw [q.1, q.2] at d
      have := (nw x d).2
      omega
    · exact h5 a b x ⟨a0, ab, bm, by omega⟩ d
/-- one ahead of the best one -/
theorem RCI.yes {D : Int → Int → Int → Prop} {m i i' j j' j1 N first one other t : Int} (h : RCI D (PSx m i j) N first one other) (i0 : 0 ≤ i) (ij : i < j) (jm : j < m) (d : D i j t) (t0 : 0 ≤ t) (t1 : t ≤ 52595999) (mn : ∀ x : Int, D i j x → t ≤ x) (lt : first = N ∨ t < first) (nN : 0 ≤ N → 52595999 < N) (ej : j' = j + 1) (ei : i' = i) (ej1 : j1 = j) : RCI D (PSx m i j') N t i' j1 := by
  subst ej
  subst ei
  subst ej1
  refine Or.inr ⟨t0, t1, ⟨i0, ij, jm, by omega⟩, d, fun a b x ⟨a0, ab, bm, z⟩ dx => ?_⟩
  by_cases q : a = i' ∧ b = j1
  · rw [q.1, q.2] at dx ⊢
    have := mn x dx
    omega
  · have s : PSx m i' j1 a b := ⟨a0, ab, bm, by omega⟩
    rcases h with ⟨h1, h2, h3, h4⟩ | ⟨h1, h2, h3, h4, h5⟩
    · exact absurd dx (h4 a b x s)
    · have := h5 a b x s dx
      omega
theorem RCI.one {D : Int → Int → Int → Prop} {S : Int → Int → Prop} {N N' f o t f' o' t' : Int} (h : RCI D S N f o t) (g : RCI D S N' f' o' t') : (f = N ∧ o = -1 ∧ t = -1 ∧ f' = N' ∧ o' = -1 ∧ t' = -1) ∨ (0 ≤ f ∧ f ≤ 52595999 ∧ f' = f ∧ o' = o ∧ t' = t) := by
  rcases h with ⟨h1, h2, h3, h4⟩ | ⟨h1, h2, h3, h4, h5⟩ <;> rcases g with ⟨g1, g2, g3, g4⟩ | ⟨g1, g2, g3, g4, g5⟩
  · exact Or.inl ⟨h1, h2, h3, g1, g2, g3⟩
  · exact absurd g4 (h4 _ _ _ g3)
  · exact absurd h4 (g4 _ _ _ h3)
  · have a := h5 _ _ _ g3 g4
    have b := g5 _ _ _ h3 h4
    exact Or.inr ⟨h1, h2, by omega, by omega, by omega⟩
theorem bw_all {f : Nat → va_E} {a b : Nat} {g : Int → Int} {p q u c r1 r : Int} {O O' : Int → Int} (ha : BO f a g p O) (hb : BO f b g q O') (h : Bw (CC (Oc g p O) (g (p + 2)) (Oc g q O') (g (q + 2)) u) (fun x => MC (aI f (TA f a)) (fI f a 10) (Oc g q O') (g (q + 2)) (g (p + 2)) u x ∨ MC (aI f (TA f b)) (fI f b 10) (Oc g p O) (g (p + 2)) (g (q + 2)) u x) c r1) (h2 : Bw (CC (Oc g p O) (g (p + 2)) (Oc g q O') (g (q + 2)) u) (RRS g p O q O' u) r1 r) : r ≤ c ∧ (r = c ∨ CC (Oc g p O) (g (p + 2)) (Oc g q O') (g (q + 2)) u r) ∧ ∀ x : Int, CC (Oc g p O) (g (p + 2)) (Oc g q O') (g (q + 2)) u x → r ≤ x ∧ 0 ≤ x ∧ x ≤ 52595999 := by
  have od : OdR (aI f (KA f a)) (aI f (TA f a)) (fI f a 10) O := ha.2.1
  have od' : OdR (aI f (KA f b)) (aI f (TA f b)) (fI f b 10) O' := hb.2.1
  have pa := ha.1.pk ha.2.2.1 ha.2.2.2.1 ha.2.2.2.2.1
  have pb := hb.1.pk hb.2.2.1 hb.2.2.2.1 hb.2.2.2.2.1
  obtain ⟨b1, b2, b3⟩ := h.join h2
  refine ⟨b1, b2, fun x z => ⟨b3 x ?_, ?_⟩⟩
  · rcases cc_all od od' z rfl rfl with w | w | w
    · exact Or.inl (Or.inl w)
    · exact Or.inl (Or.inr w)
    · exact Or.inr w
  · obtain ⟨s, k, z1, t, j, z2, _, _, e, _⟩ := z
    have := pa _ _ z1
    have := pb _ _ z2
    omega
theorem roomClash_eq {g : Int → Int} {Os : Int → Int → Int} {m a a' b b' c c' r r' : Int} (h : (r = -1 ∧ ¬ ((0 ≤ a ∧ a ≤ 7) ∧ (0 ≤ b ∧ b ≤ 52595999) ∧ (0 ≤ c ∧ c ≤ 2))) ∨ (((0 ≤ a ∧ a ≤ 7) ∧ (0 ≤ b ∧ b ≤ 52595999) ∧ (0 ≤ c ∧ c ≤ 2)) ∧ ∃ f o t : Int, RCI (RD g Os a b) (PSx m m 0) 2147483647 f o t ∧ ((f = 2147483647 ∧ r = o) ∨ (c = 1 ∧ r = o) ∨ (f ≠ 2147483647 ∧ c = 0 ∧ r = f) ∨ (f ≠ 2147483647 ∧ c ≠ 0 ∧ c ≠ 1 ∧ r = t)))) (q : (r' = -1 ∧ ¬ ((0 ≤ a' ∧ a' ≤ 7) ∧ (0 ≤ b' ∧ b' ≤ 52595999) ∧ (0 ≤ c' ∧ c' ≤ 2))) ∨ (((0 ≤ a' ∧ a' ≤ 7) ∧ (0 ≤ b' ∧ b' ≤ 52595999) ∧ (0 ≤ c' ∧ c' ≤ 2)) ∧ ∃ f o t : Int, RCI (RD g Os a' b') (PSx m m 0) (-1) f o t ∧ ((c' = 0 ∧ r' = f) ∨ (c' = 1 ∧ r' = o) ∨ (c' ≠ 0 ∧ c' ≠ 1 ∧ r' = t)))) (e1 : a = a') (e2 : b = b') (e3 : c = c') : r = r' := by
  subst e1
  subst e2
  subst e3
  rcases h with ⟨h1, h2⟩ | ⟨h1, f, o, t, h2, h3⟩ <;> rcases q with ⟨q1, q2⟩ | ⟨q1, f', o', t', q2, q3⟩
  · omega
  · exact absurd q1 h2
  · exact absurd h1 q2
  · have z := h2.one q2
    omega
theorem ca_le {C : Int → Prop} {r x : Int} (h : CA C r) (z : C x) : 0 ≤ r ∧ r ≤ x := h.elim (fun w => absurd z (w.2 x)) (fun w => ⟨w.1, w.2.2 x z⟩)
theorem ca_in {C : Int → Prop} {r : Int} (h : CA C r) (r0 : 0 ≤ r) : C r := h.elim (fun w => by have := w.1; omega) (fun w => w.2.1)
theorem hc_b {A B : Int → Int} {na nb la lb u r : Int} (h : CA (HC A B na nb la lb u) r) (tA : ∀ i : Int, 0 ≤ i → i < na → 0 ≤ A i ∧ A i ≤ 52595999) (tB : ∀ i : Int, 0 ≤ i → i < nb → 0 ≤ B i ∧ B i ≤ 52595999) : r ≤ 52595999 := by
  rcases h with ⟨h1, _⟩ | ⟨_, h2, _⟩
  · omega
  · rcases h2 with ⟨i, i0, i1, _, e⟩ | ⟨j, j0, j1, _, e⟩
    · have := tA i i0 i1; omega
    · have := tB j j0 j1; omega
theorem rd_lt {D : Int → Int → Int → Prop} {S : Int → Int → Prop} {f o t x : Int} (h : RCI D S (-1) f o t) (z : f < 0 ∨ x < f) : f = -1 ∨ x < f := by
  rcases h with ⟨h1, _⟩ | ⟨h1, _⟩ <;> omega
