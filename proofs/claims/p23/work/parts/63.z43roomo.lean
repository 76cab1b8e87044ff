/-! ===== what is on in a room ===== -/
def OCs (f : Nat → va_E) (rq : Int → Nat) (g : Int → Int) (m : Int) (Os : Int → Int → Int) : Prop := ∀ i : Int, 0 ≤ i ∧ i < m → OC f (rq i) (Os i) ∧ OM g (44 * i) (Os i) ∧ OKk g (44 * i) (Os i) ∧ 0 ≤ g (44 * i + 11) ∧ g (44 * i + 11) ≤ 16
theorem OX.all {f : Nat → va_E} {rq : Int → Nat} {rr : Int → Int → Nat} {g N : Int → Int} {G : Int → Int → Int} {m : Int} (o : OX f rq rr g m G N) : ∃ Os : Int → Int → Int, OCs f rq g m Os := by
  have h : ∀ i : Int, ∃ O : Int → Int, 0 ≤ i ∧ i < m → OC f (rq i) O ∧ OM g (44 * i) O ∧ OKk g (44 * i) O ∧ 0 ≤ g (44 * i + 11) ∧ g (44 * i + 11) ≤ 16 := fun i => o.pick i
  exact ⟨fun i => (h i).choose, fun i => (h i).choose_spec⟩
/-- of the first n bookings, those of a room: from t on, up to e -/
def OcR (g : Int → Int) (Os : Int → Int → Int) (room n t e : Int) : Prop := ∃ i k : Int, 0 ≤ i ∧ i < n ∧ g (44 * i) = room ∧ Oc g (44 * i) (Os i) t k ∧ e = t + g (44 * i + 2)
theorem OcR.none {g : Int → Int} {Os : Int → Int → Int} {room n t e : Int} (h : n ≤ 0) : ¬ OcR g Os room n t e := fun ⟨i, k, i0, i1, _⟩ => by omega
theorem OcR.skip {g : Int → Int} {Os : Int → Int → Int} {room n t e : Int} (ne : g (44 * n) ≠ room) : OcR g Os room (n + 1) t e ↔ OcR g Os room n t e := by
  refine ⟨fun ⟨i, k, i0, i1, i2, i3⟩ => ⟨i, k, i0, ?_, i2, i3⟩, fun ⟨i, k, i0, i1, i2⟩ => ⟨i, k, i0, by omega, i2⟩⟩
  by_cases q : i = n
  · rw [q] at i2; exact absurd i2 ne
  · omega
theorem OcR.more {g : Int → Int} {Os : Int → Int → Int} {room n t e : Int} (n0 : 0 ≤ n) (eq : g (44 * n) = room) : OcR g Os room (n + 1) t e ↔ (OcR g Os room n t e ∨ ∃ k : Int, Oc g (44 * n) (Os n) t k ∧ e = t + g (44 * n + 2)) := by
  constructor
  · rintro ⟨i, k, i0, i1, i2, i3, i4⟩
    by_cases q : i = n
    · rw [q] at i3 i4; exact Or.inr ⟨k, i3, i4⟩
    · exact Or.inl ⟨i, k, i0, by omega, i2, i3, i4⟩
  · rintro (⟨i, k, i0, i1, i2⟩ | ⟨k, h1, h2⟩)
    · exact ⟨i, k, i0, by omega, i2⟩
    · exact ⟨n, k, n0, by omega, eq, h1, h2⟩
theorem OcR.pos {g : Int → Int} {Os : Int → Int → Int} {room n m t e : Int} (h : OcR g Os room n t e) (hn : n ≤ m) (lb : ∀ i : Int, 0 ≤ i → i < m → 1 ≤ g (44 * i + 2) ∧ g (44 * i + 2) ≤ 4320) : t < e ∧ e ≤ t + 4320 := by
  obtain ⟨i, k, i0, i1, i2, i3, i4⟩ := h
  have := lb i i0 (by omega)
  omega
/-! the last end of what begins ahead of u -/
def TT (P : Int → Int → Prop) (a u r : Int) : Prop := a ≤ r ∧ (r = a ∨ ∃ t : Int, P t r ∧ t < u) ∧ ∀ t e : Int, P t e → t < u → e ≤ r
theorem TT.start {g : Int → Int} {Os : Int → Int → Int} {room n a u r : Int} (hn : n ≤ 0) (hr : r = a) : TT (OcR g Os room n) a u r := ⟨by omega, Or.inl hr, fun t e h _ => absurd h (OcR.none hn)⟩
theorem TT.skip {g : Int → Int} {Os : Int → Int → Int} {room n n' a u r : Int} (h : TT (OcR g Os room n) a u r) (ne : g (44 * n) ≠ room) (en : n' = n + 1) : TT (OcR g Os room n') a u r := by
  subst en
  exact ⟨h.1, h.2.1.imp id (fun ⟨t, z, w⟩ => ⟨t, (OcR.skip ne).mpr z, w⟩), fun t e z w => h.2.2 t e ((OcR.skip ne).mp z) w⟩
theorem TT.add {g : Int → Int} {Os : Int → Int → Int} {room n n' a u r r' T K : Int} (h : TT (OcR g Os room n) a u r) (n0 : 0 ≤ n) (eq : g (44 * n) = room) (s : Sa (Oc g (44 * n) (Os n)) u T K) (pk : ∀ t k : Int, Oc g (44 * n) (Os n) t k → 0 ≤ k) (hz : (K = -1 ∧ r' = r) ∨ (K ≠ -1 ∧ r' = max r (T + g (44 * n + 2)))) (en : n' = n + 1) : TT (OcR g Os room n') a u r' := by
  subst en
  obtain ⟨h1, h2, h3⟩ := h
  have hm : ∀ t e : Int, OcR g Os room (n + 1) t e ↔ (OcR g Os room n t e ∨ ∃ k : Int, Oc g (44 * n) (Os n) t k ∧ e = t + g (44 * n + 2)) := fun t e => OcR.more n0 eq
  rcases s with ⟨s1, s2, s3⟩ | ⟨s1, s2, s3⟩
  · have er : r' = r := hz.elim (fun z => z.2) (fun z => absurd s1 z.1)
    subst er
    refine ⟨h1, h2.imp id (fun ⟨t, z, w⟩ => ⟨t, (hm _ _).mpr (Or.inl z), w⟩), fun t e z w => ?_⟩
    rcases (hm t e).mp z with z | ⟨k, z, z2⟩
    · exact h3 t e z w
    · have := s3 t k z; omega
  · have k0 := pk _ _ s1
    have kn : K ≠ -1 := fun e => by rw [e] at k0; exact absurd k0 (by decide)
    have er : r' = max r (T + g (44 * n + 2)) := hz.elim (fun z => absurd z.1 kn) (fun z => z.2)
    refine ⟨by omega, ?_, fun t e z w => ?_⟩
    · by_cases c : T + g (44 * n + 2) ≤ r
      · rw [show r' = r by omega]
        exact h2.imp id (fun ⟨t, z, w⟩ => ⟨t, (hm _ _).mpr (Or.inl z), w⟩)
      · rw [show r' = T + g (44 * n + 2) by omega]
        exact Or.inr ⟨T, (hm _ _).mpr (Or.inr ⟨K, s1, rfl⟩), s2⟩
    · rcases (hm t e).mp z with z | ⟨k, z, z2⟩
      · have := h3 t e z w; omega
      · have v := s3 t k z w
        unfold Lx at v
        omega
/-! the first that begins from a on -/
def FB (P : Int → Int → Prop) (a r : Int) : Prop := (r = 2147483647 ∧ ∀ t e : Int, P t e → t < a) ∨ (r ≤ 52595999 ∧ (∃ e : Int, P r e) ∧ a ≤ r ∧ ∀ t e : Int, P t e → a ≤ t → r ≤ t)
theorem FB.start {g : Int → Int} {Os : Int → Int → Int} {room n a r : Int} (hn : n ≤ 0) (hr : r = 2147483647) : FB (OcR g Os room n) a r := Or.inl ⟨hr, fun t e h => absurd h (OcR.none hn)⟩
theorem FB.skip {g : Int → Int} {Os : Int → Int → Int} {room n n' a r : Int} (h : FB (OcR g Os room n) a r) (ne : g (44 * n) ≠ room) (en : n' = n + 1) : FB (OcR g Os room n') a r := by
  subst en
  rcases h with ⟨h1, h2⟩ | ⟨h0, ⟨e, h1⟩, h2, h3⟩
  · exact Or.inl ⟨h1, fun t e z => h2 t e ((OcR.skip ne).mp z)⟩
  · exact Or.inr ⟨h0, ⟨e, (OcR.skip ne).mpr h1⟩, h2, fun t e z => h3 t e ((OcR.skip ne).mp z)⟩
theorem FB.add {g : Int → Int} {Os : Int → Int → Int} {room n n' a r r' T K : Int} (h : FB (OcR g Os room n) a r) (n0 : 0 ≤ n) (eq : g (44 * n) = room) (s : Sk (Oc g (44 * n) (Os n)) a 0 T K) (pk : ∀ t k : Int, Oc g (44 * n) (Os n) t k → 0 ≤ k ∧ t ≤ 52595999) (hz : (K = -1 ∧ r' = r) ∨ (K ≠ -1 ∧ r' = min r T)) (en : n' = n + 1) : FB (OcR g Os room n') a r' := by
  subst en
  have hm : ∀ t e : Int, OcR g Os room (n + 1) t e ↔ (OcR g Os room n t e ∨ ∃ k : Int, Oc g (44 * n) (Os n) t k ∧ e = t + g (44 * n + 2)) := fun t e => OcR.more n0 eq
  rcases s with ⟨s1, s2, s3⟩ | ⟨s1, s2, s3⟩
  · have er : r' = r := by omega
    subst er
    have ns : ∀ t k : Int, Oc g (44 * n) (Os n) t k → t < a := fun t k z => by
      have v := s3 t k z
      have := (pk t k z).1
      unfold Lx at v
      omega
    rcases h with ⟨h1, h2⟩ | ⟨h0, ⟨e, h1⟩, h2, h3⟩
    · exact Or.inl ⟨h1, fun t e z => ((hm t e).mp z).elim (fun z => h2 t e z) (fun ⟨k, z, _⟩ => ns t k z)⟩
    · refine Or.inr ⟨h0, ⟨e, (hm _ _).mpr (Or.inl h1)⟩, h2, fun t e z w => ?_⟩
      rcases (hm t e).mp z with z | ⟨k, z, _⟩
      · exact h3 t e z w
      · have := ns t k z; omega
  · have k0 := pk _ _ s1
    have er : r' = min r T := by omega
    have aT : a ≤ T := by unfold Lx at s2; omega
    have ns : ∀ t k : Int, Oc g (44 * n) (Os n) t k → a ≤ t → T ≤ t := fun t k z w => by
      have v := s3 t k z (by have := (pk t k z).1; unfold Lx; omega)
      unfold Lx at v
      omega
    rcases h with ⟨h1, h2⟩ | ⟨h0, ⟨e, h1⟩, h2, h3⟩
    · rw [show r' = T by omega]
      refine Or.inr ⟨k0.2, ⟨_, (hm _ _).mpr (Or.inr ⟨K, s1, rfl⟩)⟩, aT, fun t e z w => ?_⟩
      rcases (hm t e).mp z with z | ⟨k, z, _⟩
      · have := h2 t e z; omega
      · exact ns t k z w
    · refine Or.inr ⟨by omega, ?_, by omega, fun t e z w => ?_⟩
      · by_cases c : r ≤ T
        · rw [show r' = r by omega]; exact ⟨e, (hm _ _).mpr (Or.inl h1)⟩
        · rw [show r' = T by omega]; exact ⟨_, (hm _ _).mpr (Or.inr ⟨K, s1, rfl⟩)⟩
      · rcases (hm t e).mp z with z | ⟨k, z, _⟩
        · have := h3 t e z w; omega
        · have := ns t k z w; omega
/-! minutes in which something is on -/
def cov (P : Int → Int → Prop) (x : Int) : Prop := ∃ t e : Int, P t e ∧ t ≤ x ∧ x < e
theorem cn_all {p : Int → Prop} {a b : Int} (ab : a ≤ b) (h : ∀ d : Int, a ≤ d → d < b → p d) : cn p a b = b - a := by
  have z := cn_compl (p := p) (a := a) (b - a).toNat
  rw [show a + (((b - a).toNat : Nat) : Int) = b by omega] at z
  have y : cn (fun i => ¬ p i) a b = 0 := cn_none (fun d d0 d1 w => w (h d d0 d1))
  omega
theorem tm_yes {P : Int → Int → Prop} {s a stop till0 till c c' : Int} (h : TT P a (a + 1) till0) (ht : till = min till0 stop) (sa : s ≤ a) (gt : a < till) (hc : c = cn (cov P) s a) (ec : c' = c + (till - a)) : c' = cn (cov P) s till := by
  obtain ⟨h1, h2, h3⟩ := h
  rcases h2 with h2 | ⟨t, h2, h4⟩
  · omega
  · have e1 := cn_add (p := cov P) (a := s) (b := a) (c := till) sa (by omega)
    have e2 := cn_all (p := cov P) (a := a) (b := till) (by omega) (fun d d0 d1 => ⟨t, till0, h2, by omega, by omega⟩)
    omega
theorem tm_no {P : Int → Int → Prop} {s a stop till0 b b' c : Int} (h : TT P a (a + 1) till0) (le : till0 ≤ a) (f : FB P a b) (pos : ∀ t e : Int, P t e → t < e) (eb : b' = min b stop) (as : a < stop) (sa : s ≤ a) (hs : stop ≤ 2147483647) (hc : c = cn (cov P) s a) : a < b' ∧ b' ≤ stop ∧ c = cn (cov P) s b' := by
  obtain ⟨h1, h2, h3⟩ := h
  have ab : a < b := by
    rcases f with ⟨f1, f2⟩ | ⟨f0, ⟨e, f1⟩, f2, f3⟩
    · omega
    · rcases Int.lt_or_le a b with q | q
      · exact q
      · have e0 : b = a := by omega
        rw [e0] at f1
        have p1 := pos _ _ f1
        have p2 := h3 _ _ f1 (by omega)
        omega
  refine ⟨by omega, by omega, ?_⟩
  rw [cn_add (p := cov P) (a := s) (b := a) (c := b') sa (by omega), cn_none (p := cov P) (a := a) (b := b') (fun d d0 d1 ⟨t, e, z, z1, z2⟩ => ?_)]
  · omega
  · rcases Int.lt_or_le t a with q | q
    · have := h3 t e z (by omega); omega
    · rcases f with ⟨f1, f2⟩ | ⟨f0, ⟨e, f1⟩, f2, f3⟩
      · have := f2 t _ z; omega
      · have := f3 t _ z q; omega
/-! the first time from which on a room is free for w minutes -/
def fre (P : Int → Int → Prop) (w x : Int) : Prop := ∀ y : Int, x ≤ y → y < x + w → ¬ cov P y
def FR (P : Int → Int → Prop) (w a b r : Int) : Prop := (a ≤ r ∧ r ≤ b ∧ fre P w r ∧ ∀ x : Int, a ≤ x → x < r → ¬ fre P w x) ∨ (r = -1 ∧ ∀ x : Int, a ≤ x → x ≤ b → ¬ fre P w x)
theorem FR.one {P : Int → Int → Prop} {w a b r r' : Int} (a0 : 0 ≤ a) (h : FR P w a b r) (g : FR P w a b r') : r = r' := by
  rcases h with ⟨h1, h2, h3, h4⟩ | ⟨h1, h2⟩ <;> rcases g with ⟨g1, g2, g3, g4⟩ | ⟨g1, g2⟩
  · rcases Int.lt_trichotomy r r' with q | q | q
    · exact absurd h3 (g4 r h1 q)
    · exact q
    · exact absurd g3 (h4 r' g1 q)
  · exact absurd h3 (g2 r h1 h2)
  · exact absurd g3 (h2 r' g1 g2)
  · omega
/-- at a time at which it isn't free, up to the last end of what begins ahead -/
theorem fr_jump {P : Int → Int → Prop} {w a till : Int} (w1 : 1 ≤ w) (pos : ∀ t e : Int, P t e → t < e) (h : TT P a (a + w) till) (gt : a < till) : ∀ x : Int, a ≤ x → x < till → ¬ fre P w x := by
  intro x x0 x1 z
  obtain ⟨h1, h2, h3⟩ := h
  rcases h2 with h2 | ⟨t, h2, h4⟩
  · omega
  · have p := pos _ _ h2
    exact z (max t x) (by omega) (by omega) ⟨t, till, h2, by omega, by omega⟩
theorem fr_here {P : Int → Int → Prop} {w a till : Int} (h : TT P a (a + w) till) (le : till ≤ a) : fre P w a := by
  intro y y0 y1 ⟨t, e, z, z1, z2⟩
  have := h.2.2 t e z (by omega)
  omega
/-! ===== what is on in a room: the class's walks ===== -/
theorem SX.eh {cy : Cy} {f g : Nat → va_E} {x : Nat} {rw : Int → Nat} {h : Int → Int} {m : Int} (s : SX f x rw h m) (z : Eh cy f g) (o7 : Ob f x 7) : SX g x rw h m := by
  obtain ⟨sh, e1, e2, e3, e4⟩ := s
  exact ⟨sh, (fR_W (z.2.2.1 _ _ _ o7 (by decide))).trans e1, e2.fz z.ef.2 z.1.1.1, e3, e4⟩
theorem OCs.eh {cy : Cy} {f g : Nat → va_E} {rq : Int → Nat} {h : Int → Int} {m : Int} {Os : Int → Int → Int} (o : OCs f rq h m Os) (z : Eh cy f g) : OCs g rq h m Os := fun i hi => ⟨(o i hi).1.eh z, (o i hi).2⟩
theorem RB.eh {cy : Cy} {f g : Nat → va_E} {b : Nat} {h : Int → Int} {p : Int} (r : RB f b h p) (z : Eh cy f g) : RB g b h p := r.fz z.ef.2 z.1.1.1
theorem RB.pk {f : Nat → va_E} {b : Nat} {g : Int → Int} {p : Int} {O : Int → Int} (rb : RB f b g p) (hk : OKk g p O) (m0 : 0 ≤ g (p + 1)) (m1 : g (p + 1) ≤ 1439) : ∀ t k : Int, Oc g p O t k → 0 ≤ k ∧ k ≤ 36524 ∧ 0 ≤ t ∧ t ≤ 52595999 := fun t k z => z.rg hk (fun d z => by have := rb.2.1.rg z; omega) m0 m1
theorem Sa.rg {P : Int → Int → Prop} {u T K : Int} (h : Sa P u T K) (pk : ∀ t k : Int, P t k → 0 ≤ k ∧ k ≤ 36524 ∧ 0 ≤ t ∧ t ≤ 52595999) : (K = -1 ∧ T = -1) ∨ (0 ≤ K ∧ K ≤ 36524 ∧ 0 ≤ T ∧ T ≤ 52595999) := h.elim (fun z => Or.inl ⟨z.1, z.2.1⟩) (fun z => Or.inr (pk _ _ z.1))
theorem Sk.rg {P : Int → Int → Prop} {u j T K : Int} (h : Sk P u j T K) (pk : ∀ t k : Int, P t k → 0 ≤ k ∧ k ≤ 36524 ∧ 0 ≤ t ∧ t ≤ 52595999) : (K = -1 ∧ T = 2147483647) ∨ (0 ≤ K ∧ K ≤ 36524 ∧ 0 ≤ T ∧ T ≤ 52595999) := h.elim (fun z => Or.inl ⟨z.1, z.2.1⟩) (fun z => Or.inr (pk _ _ z.1))
theorem Sa.arg {P : Int → Int → Prop} {u u' T K : Int} (h : Sa P u T K) (e : u' = u) : Sa P u' T K := by rw [e]; exact h
theorem Sk.arg {P : Int → Int → Prop} {u u' j j' T K : Int} (h : Sk P u j T K) (e : u' = u) (e2 : j' = j) : Sk P u' j' T K := by rw [e, e2]; exact h
theorem TT.to {g : Int → Int} {Os : Int → Int → Int} {room n n' a u r : Int} (h : TT (OcR g Os room n) a u r) (e : n' = n) : TT (OcR g Os room n') a u r := by rw [e]; exact h
theorem TT.arg {P : Int → Int → Prop} {a u u' r : Int} (h : TT P a u r) (e : u' = u) : TT P a u' r := by rw [e]; exact h
theorem FB.to {g : Int → Int} {Os : Int → Int → Int} {room n n' a r : Int} (h : FB (OcR g Os room n) a r) (e : n' = n) : FB (OcR g Os room n') a r := by rw [e]; exact h
theorem OcR.lt {g : Int → Int} {Os : Int → Int → Int} {room m : Int} (ml : ∀ i : Int, 0 ≤ i → i < m → 1 ≤ g (44 * i + 2) ∧ g (44 * i + 2) ≤ 4320) : ∀ t e : Int, OcR g Os room m t e → t < e := fun _ _ z => (z.pos (Int.le_refl _) ml).1
theorem TT.up {g : Int → Int} {Os : Int → Int → Int} {room m a u r : Int} (h : TT (OcR g Os room m) a u r) (ml : ∀ i : Int, 0 ≤ i → i < m → 1 ≤ g (44 * i + 2) ∧ g (44 * i + 2) ≤ 4320) (u0 : u ≤ a + 4320) (u1 : a < u) : r ≤ a + 8640 := by
  rcases h.2.1 with z | ⟨t, z, w⟩
  · omega
  · have := (z.pos (Int.le_refl _) ml).2
    omega
/-! from a to b not free -/
def FNx (P : Int → Int → Prop) (w a b : Int) : Prop := ∀ x : Int, a ≤ x → x < b → ¬ fre P w x
theorem FNx.start {P : Int → Int → Prop} {w a b : Int} (e : b = a) : FNx P w a b := fun x h0 h1 => by omega
theorem FNx.go {P : Int → Int → Prop} {w a b t : Int} (h : FNx P w a b) (w1 : 1 ≤ w) (pos : ∀ t e : Int, P t e → t < e) (z : TT P b (b + w) t) (gt : b < t) : FNx P w a t := fun x h0 h1 => by
  rcases Int.lt_or_le x b with q | q
  · exact h x h0 q
  · exact fr_jump w1 pos z gt x q h1
theorem FNx.out {P : Int → Int → Prop} {w a b c : Int} (h : FNx P w a b) (e : c < b) : FR P w a c (-1) := Or.inr ⟨rfl, fun x h0 h1 => h x h0 (by omega)⟩
theorem FNx.here {P : Int → Int → Prop} {w a b c t : Int} (h : FNx P w a b) (ab : a ≤ b) (bc : b ≤ c) (z : TT P b (b + w) t) (le : t ≤ b) : FR P w a c b := Or.inl ⟨ab, bc, fr_here z le, h⟩
theorem FR.arg {P : Int → Int → Prop} {w a c c' r r' : Int} (h : FR P w a c r) (e : c' = c) (e2 : r' = r) : FR P w a c' r' := by rw [e, e2]; exact h
/-! the day of most -/
noncomputable def wdy (P : Int → Int → Prop) (d : Int) : Int := cn (cov P) (1440 * d) (1440 * d + 1440)
theorem wdy_rg {P : Int → Int → Prop} {d : Int} : 0 ≤ wdy P d ∧ wdy P d ≤ 1440 := by
  have h := cn_pos (p := cov P) (a := 1440 * d) (b := 1440 * d + 1440)
  unfold wdy
  omega
theorem wd_of {P : Int → Int → Prop} {d r s e : Int} (h : r = cn (cov P) s e) (es : s = 1440 * d) (ee : e = 1440 * d + 1440) : r = wdy P d := by
  unfold wdy
  rw [← ee, ← es]
  exact h
def BS (W : Int → Int) (a b r : Int) : Prop := a ≤ r ∧ r ≤ b ∧ (∀ d : Int, a ≤ d → d ≤ b → W d ≤ W r) ∧ ∀ d : Int, a ≤ d → d < r → W d < W r
theorem BS.one {W : Int → Int} {a b r r' : Int} (h : BS W a b r) (g : BS W a b r') : r = r' := by
  obtain ⟨h1, h2, h3, h4⟩ := h
  obtain ⟨g1, g2, g3, g4⟩ := g
  rcases Int.lt_trichotomy r r' with q | q | q
  · have := h3 r' g1 g2
    have := g4 r h1 q
    omega
  · exact q
  · have := g3 r h1 h2
    have := h4 r' g1 q
    omega
/-- the best one and its count, of the days up to d; z: what the count is at first -/
def BT2 (W : Int → Int) (z a d best most : Int) : Prop := (best = a ∧ most = z ∧ ∀ x : Int, a ≤ x → x < d → W x ≤ z) ∨ (a ≤ best ∧ best < d ∧ most = W best ∧ (∀ x : Int, a ≤ x → x < d → W x ≤ most) ∧ ∀ x : Int, a ≤ x → x < best → W x < most)
theorem BT2.start {W : Int → Int} {z a d best most : Int} (e : d = a) (e1 : best = a) (e2 : most = z) : BT2 W z a d best most := Or.inl ⟨e1, e2, fun x h0 h1 => by omega⟩
theorem BT2.no {W : Int → Int} {z a d d' best most t : Int} (h : BT2 W z a d best most) (et : t = W d) (le : t ≤ most) (ed : d' = d + 1) : BT2 W z a d' best most := by
  subst ed
  rcases h with ⟨h1, h2, h3⟩ | ⟨h1, h2, h3, h4, h5⟩
  · refine Or.inl ⟨h1, h2, fun x x0 x1 => ?_⟩
    rcases Int.lt_or_le x d with q | q
    · exact h3 x x0 q
    · rw [show x = d by omega]; omega
  · refine Or.inr ⟨h1, by omega, h3, fun x x0 x1 => ?_, h5⟩
    rcases Int.lt_or_le x d with q | q
    · exact h4 x x0 q
    · rw [show x = d by omega]; omega
theorem BT2.yes {W : Int → Int} {z a d d' best most t b' : Int} (h : BT2 W z a d best most) (ad : a ≤ d) (et : t = W d) (gt : most < t) (ed : d' = d + 1) (eb : b' = d) : BT2 W z a d' b' t := by
  subst ed
  subst eb
  have hl : ∀ x : Int, a ≤ x → x < b' → W x ≤ most := fun x x0 x1 => by
    rcases h with ⟨h1, h2, h3⟩ | ⟨h1, h2, h3, h4, h5⟩
    · have := h3 x x0 x1; omega
    · exact h4 x x0 x1
  refine Or.inr ⟨ad, by omega, et, fun x x0 x1 => ?_, fun x x0 x1 => ?_⟩
  · rcases Int.lt_or_le x b' with q | q
    · have := hl x x0 q; omega
    · rw [show x = b' by omega]; omega
  · have := hl x x0 x1; omega
theorem BT2.out {W : Int → Int} {z a b d best most : Int} (h : BT2 W z a d best most) (z0 : z ≤ 0) (w0 : ∀ x : Int, 0 ≤ W x) (ab : a ≤ b) (ed : d = b + 1) : BS W a b best := by
  subst ed
  rcases h with ⟨h1, h2, h3⟩ | ⟨h1, h2, h3, h4, h5⟩
  · refine ⟨by omega, by omega, fun x x0 x1 => ?_, fun x x0 x1 => by omega⟩
    have := h3 x x0 (by omega)
    have := w0 best
    omega
  · refine ⟨h1, by omega, fun x x0 x1 => ?_, fun x x0 x1 => ?_⟩
    · have := h4 x x0 (by omega); omega
    · have := h5 x x0 x1; omega
theorem tm_no2 {P : Int → Int → Prop} {s a stop till0 b b' c c' till : Int} (h : TT P a (a + 1) till0) (ht : till = min till0 stop) (le : till ≤ a) (f : FB P a b) (pos : ∀ t e : Int, P t e → t < e) (eb : b' = min b stop) (as : a < stop) (sa : s ≤ a) (hs : stop ≤ 2147483647) (hc : c = cn (cov P) s a) (ec : c' = c + (till - a)) : a < b' ∧ b' ≤ stop ∧ c' = cn (cov P) s b' := by
  have h1 := h.1
  have le0 : till0 ≤ a := by omega
  have e : c' = c := by omega
  rw [e]
  exact tm_no h le0 f pos eb as sa hs hc
theorem BT2.to {W : Int → Int} {z a d d' best most : Int} (h : BT2 W z a d best most) (e : d' = d) : BT2 W z a d' best most := by rw [e]; exact h
/-! ===== what is on in a room: the reference's walks ===== -/
def OMs (g : Int → Int) (m : Int) (Os : Int → Int → Int) : Prop := ∀ i : Int, 0 ≤ i ∧ i < m → OM g (44 * i) (Os i) ∧ OKk g (44 * i) (Os i)
theorem cov_more {g : Int → Int} {Os : Int → Int → Int} {room n x : Int} (n0 : 0 ≤ n) (eq : g (44 * n) = room) : cov (OcR g Os room (n + 1)) x ↔ (cov (OcR g Os room n) x ∨ ∃ t k : Int, Oc g (44 * n) (Os n) t k ∧ t ≤ x ∧ x < t + g (44 * n + 2)) := by
  constructor
  · rintro ⟨t, e, z, z1, z2⟩
    rcases (OcR.more n0 eq).mp z with z | ⟨k, z, w⟩
    · exact Or.inl ⟨t, e, z, z1, z2⟩
    · exact Or.inr ⟨t, k, z, z1, by omega⟩
  · rintro (⟨t, e, z, z1, z2⟩ | ⟨t, k, z, z1, z2⟩)
    · exact ⟨t, e, (OcR.more n0 eq).mpr (Or.inl z), z1, z2⟩
    · exact ⟨t, _, (OcR.more n0 eq).mpr (Or.inr ⟨k, z, rfl⟩), z1, z2⟩
theorem cov_skip {g : Int → Int} {Os : Int → Int → Int} {room n x : Int} (ne : g (44 * n) ≠ room) : cov (OcR g Os room (n + 1)) x ↔ cov (OcR g Os room n) x := ⟨fun ⟨t, e, z, w⟩ => ⟨t, e, (OcR.skip ne).mp z, w⟩, fun ⟨t, e, z, w⟩ => ⟨t, e, (OcR.skip ne).mpr z, w⟩⟩
theorem cov_none {g : Int → Int} {Os : Int → Int → Int} {room n x : Int} (h : n ≤ 0) : ¬ cov (OcR g Os room n) x := fun ⟨t, e, z, _⟩ => OcR.none h z
/-- a row of marks -/
def MK (C : Int → Prop) (n : Int) (v : Int → Int) : Prop := ∀ j : Int, 0 ≤ j → j < n → (v j = 1 ∧ C j) ∨ (v j = 0 ∧ ¬ C j)
theorem MK.cg {C D : Int → Prop} {n : Int} {v v' : Int → Int} (h : MK C n v) (ev : ∀ j : Int, 0 ≤ j → j < n → v' j = v j) (e : ∀ j : Int, 0 ≤ j → j < n → (D j ↔ C j)) : MK D n v' := fun j j0 j1 => by
  rw [ev j j0 j1]
  exact (h j j0 j1).imp (fun z => ⟨z.1, (e j j0 j1).mpr z.2⟩) (fun z => ⟨z.1, fun w => z.2 ((e j j0 j1).mp w)⟩)
theorem MK.row {C : Int → Prop} {n : Int} {v v' : Int → Int} (h : MK C n v) (ev : ∀ j : Int, v' j = v j) : MK C n v' := h.cg (fun j _ _ => ev j) (fun _ _ _ => Iff.rfl)
theorem MK.zero {C : Int → Prop} {n m : Int} {v : Int → Int} (h : ∀ j : Int, 0 ≤ j → j < m → v j = 0) (le : n ≤ m) (no : ∀ j : Int, ¬ C j) : MK C n v := fun j j0 j1 => Or.inr ⟨h j j0 (by omega), no j⟩
theorem MK.put {C D : Int → Prop} {n i : Int} {v v' : Int → Int} (h : MK C n v) (vi : v' i = 1) (vn : ∀ j : Int, 0 ≤ j → j ≠ i → v' j = v j) (e : ∀ j : Int, 0 ≤ j → j < n → (D j ↔ (C j ∨ j = i))) : MK D n v' := fun j j0 j1 => by
  by_cases q : j = i
  · exact Or.inl ⟨by rw [q]; exact vi, (e j j0 j1).mpr (Or.inr q)⟩
  · rw [vn j j0 q]
    exact (h j j0 j1).imp (fun z => ⟨z.1, (e j j0 j1).mpr (Or.inl z.2)⟩) (fun z => ⟨z.1, fun w => ((e j j0 j1).mp w).elim z.2 q⟩)
/-- marked by the bookings up to n and the first k of n's own -/
def CK (g : Int → Int) (Os : Int → Int → Int) (room n s : Int) (tm : Int → Int) (len k j : Int) : Prop := cov (OcR g Os room n) (s + j) ∨ ∃ i : Int, 0 ≤ i ∧ i < k ∧ tm i ≤ s + j ∧ s + j < tm i + len
/-- and of the next one, the minutes from a to b -/
def CJ (g : Int → Int) (Os : Int → Int → Int) (room n s : Int) (tm : Int → Int) (len k a b j : Int) : Prop := CK g Os room n s tm len k j ∨ (a ≤ j ∧ j < b)
theorem CK.first {g : Int → Int} {Os : Int → Int → Int} {room n s : Int} {tm : Int → Int} {len k N : Int} {v v' : Int → Int} (h : MK (fun j => cov (OcR g Os room n) (s + j)) N v) (ev : ∀ j : Int, v' j = v j) (hk : k ≤ 0) : MK (CK g Os room n s tm len k) N v' := h.cg (fun j _ _ => ev j) (fun j _ _ => ⟨fun z => z.elim id (fun ⟨i, i0, i1, _⟩ => by omega), Or.inl⟩)
theorem CK.to {g : Int → Int} {Os : Int → Int → Int} {room n s : Int} {tm : Int → Int} {len k k' N : Int} {v : Int → Int} (h : MK (CK g Os room n s tm len k) N v) (e : k' = k) : MK (CK g Os room n s tm len k') N v := by rw [e]; exact h
theorem ck_more {g : Int → Int} {Os : Int → Int → Int} {room n s : Int} {tm : Int → Int} {len k j : Int} (k0 : 0 ≤ k) : CK g Os room n s tm len (k + 1) j ↔ (CK g Os room n s tm len k j ∨ (tm k ≤ s + j ∧ s + j < tm k + len)) := by
  constructor
  · rintro (z | ⟨i, i0, i1, z⟩)
    · exact Or.inl (Or.inl z)
    · by_cases q : i = k
      · rw [q] at z; exact Or.inr z
      · exact Or.inl (Or.inr ⟨i, i0, by omega, z⟩)
  · rintro ((z | ⟨i, i0, i1, z⟩) | z)
    · exact Or.inl z
    · exact Or.inr ⟨i, i0, by omega, z⟩
    · exact Or.inr ⟨k, k0, by omega, z⟩
theorem CK.skip {g : Int → Int} {Os : Int → Int → Int} {room n s : Int} {tm : Int → Int} {len k N b e t : Int} {v : Int → Int} (h : MK (CK g Os room n s tm len k) N v) (k0 : 0 ≤ k) (et : tm k = t) (eb : b = t - s) (ee : e = b + len) (hs : N ≤ b ∨ e ≤ 0) : MK (CK g Os room n s tm len (k + 1)) N v :=
  h.cg (fun _ _ _ => rfl) (fun j j0 j1 => (ck_more k0).trans ⟨fun z => z.elim id (fun z => by omega), Or.inl⟩)
theorem CJ.start {g : Int → Int} {Os : Int → Int → Int} {room n s : Int} {tm : Int → Int} {len k a b N : Int} {v : Int → Int} (h : MK (CK g Os room n s tm len k) N v) (e : b ≤ a) : MK (CJ g Os room n s tm len k a b) N v :=
  h.cg (fun _ _ _ => rfl) (fun j _ _ => ⟨fun z => z.elim id (fun z => by omega), Or.inl⟩)
theorem CJ.put {g : Int → Int} {Os : Int → Int → Int} {room n s : Int} {tm : Int → Int} {len k a b N : Int} {v v' : Int → Int} (h : MK (CJ g Os room n s tm len k a b) N v) (ab : a ≤ b) (vi : v' b = 1) (vn : ∀ j : Int, 0 ≤ j → j ≠ b → v' j = v j) : MK (CJ g Os room n s tm len k a (b + 1)) N v' :=
  h.put vi vn (fun j _ _ => ⟨fun z => z.elim (fun z => Or.inl (Or.inl z)) (fun z => (Decidable.em (j = b)).elim Or.inr (fun q => Or.inl (Or.inr ⟨z.1, by omega⟩))), fun z => z.elim (fun z => z.elim Or.inl (fun z => Or.inr ⟨z.1, by omega⟩)) (fun z => Or.inr ⟨by omega, by omega⟩)⟩)
theorem CJ.to {g : Int → Int} {Os : Int → Int → Int} {room n s : Int} {tm : Int → Int} {len k a b b' N : Int} {v : Int → Int} (h : MK (CJ g Os room n s tm len k a b) N v) (e : b' = b) : MK (CJ g Os room n s tm len k a b') N v := by rw [e]; exact h
theorem CJ.done {g : Int → Int} {Os : Int → Int → Int} {room n s : Int} {tm : Int → Int} {len k a b N bg e t : Int} {v : Int → Int} (h : MK (CJ g Os room n s tm len k a b) N v) (k0 : 0 ≤ k) (et : tm k = t) (eb : bg = t - s) (ee : e = bg + len) (ha : (a = 0 ∧ bg < 0) ∨ (a = bg ∧ 0 ≤ bg)) (b1 : b ≤ e) (hb : e ≤ b ∨ N ≤ b) : MK (CK g Os room n s tm len (k + 1)) N v :=
  h.cg (fun _ _ _ => rfl) (fun j j0 j1 => (ck_more k0).trans ⟨fun z => z.imp id (fun z => ⟨by omega, by omega⟩), fun z => z.imp id (fun z => ⟨by omega, by omega⟩)⟩)
theorem CK.done {g : Int → Int} {Os : Int → Int → Int} {room n n' s : Int} {tm ks : Int → Int} {len k N nl : Int} {v : Int → Int} (h : MK (CK g Os room n s tm len k) N v) (n0 : 0 ≤ n) (eq : g (44 * n) = room) (el : len = g (44 * n + 2)) (ll : LL (Oc g (44 * n) (Os n)) tm ks nl) (ek : k = nl) (en : n' = n + 1) : MK (fun j => cov (OcR g Os room n') (s + j)) N v := by
  subst ek
  subst en
  subst el
  refine h.cg (fun _ _ _ => rfl) (fun j _ _ => (cov_more n0 eq).trans ⟨fun z => z.imp id (fun ⟨t, d, z1, z2, z3⟩ => ?_), fun z => z.imp id (fun ⟨i, i0, i1, z2, z3⟩ => ⟨tm i, ks i, ll.2.1 i i0 i1, z2, z3⟩)⟩)
  obtain ⟨i, i0, i1, i2, i3⟩ := ll.2.2.2 t d z1
  exact ⟨i, i0, i1, by omega, by omega⟩
theorem MK.skipR {g : Int → Int} {Os : Int → Int → Int} {room n n' s N : Int} {v : Int → Int} (h : MK (fun j => cov (OcR g Os room n) (s + j)) N v) (ne : g (44 * n) ≠ room) (en : n' = n + 1) : MK (fun j => cov (OcR g Os room n') (s + j)) N v := by
  subst en
  exact h.cg (fun _ _ _ => rfl) (fun j _ _ => cov_skip ne)
theorem MK.toR {g : Int → Int} {Os : Int → Int → Int} {room n n' s N : Int} {v : Int → Int} (h : MK (fun j => cov (OcR g Os room n) (s + j)) N v) (e : n' = n) : MK (fun j => cov (OcR g Os room n') (s + j)) N v := by rw [e]; exact h
/-! counted, and in a row -/
theorem cn_sh {p : Int → Prop} {a : Int} (n : Nat) : cn (fun j => p (a + j)) 0 (0 + n) = cn p a (a + n) := by
  induction n with
  | zero => rw [cn_le (by omega), cn_le (by omega)]
  | succ n ih =>
    rw [show (0 : Int) + ((n + 1 : Nat) : Int) = 0 + n + 1 by omega, show a + ((n + 1 : Nat) : Int) = a + n + 1 by omega]
    rcases Classical.em (p (a + n)) with c | c
    · rw [cn_yes (by omega) c, cn_yes (p := fun j => p (a + j)) (by omega) (by rw [show a + (0 + (n : Int)) = a + n by omega]; exact c), ih]
    · rw [cn_no (by omega) c, cn_no (p := fun j => p (a + j)) (by omega) (by rw [show a + (0 + (n : Int)) = a + n by omega]; exact c), ih]
theorem wd_cn {P : Int → Int → Prop} {d s r o : Int} (h : r = cn (fun j => cov P (s + (o + j))) 0 1440) (es : s + o = 1440 * d) : r = wdy P d := by
  have z := cn_sh (p := cov P) (a := 1440 * d) 1440
  unfold wdy
  rw [h, ← show cn (fun j => cov P (1440 * d + j)) 0 1440 = cn (cov P) (1440 * d) (1440 * d + 1440) from z]
  exact cn_cg (fun j _ _ => by rw [show s + (o + j) = 1440 * d + j by omega])
theorem MK.b {C : Int → Prop} {n j x : Int} {v : Int → Int} (h : MK C n v) (j0 : 0 ≤ j) (j1 : j < n) (e : x = v j) : (x = 1 ∧ C j) ∨ (x = 0 ∧ ¬ C j) := by rw [e]; exact h j j0 j1
/-- free minutes in a row, up to minute m -/
def RUx (P : Int → Int → Prop) (w s m run : Int) : Prop := 0 ≤ run ∧ run ≤ m ∧ (∀ j : Int, m - run ≤ j → j < m → ¬ cov P (s + j)) ∧ (run < m → cov P (s + (m - run - 1))) ∧ ∀ x : Int, 0 ≤ x → x + w ≤ m → ¬ fre P w (s + x)
theorem RUx.start {P : Int → Int → Prop} {w s m run : Int} (w1 : 1 ≤ w) (e : m = 0) (e2 : run = 0) : RUx P w s m run := by
  subst e
  subst e2
  exact ⟨by omega, by omega, fun j h0 h1 => by omega, fun h => by omega, fun x h0 h1 => by omega⟩
theorem RUx.yes {P : Int → Int → Prop} {w s m m' run run' : Int} (h : RUx P w s m run) (w1 : 1 ≤ w) (c : cov P (s + m)) (em : m' = m + 1) (er : run' = 0) : RUx P w s m' run' := by
  subst em
  subst er
  obtain ⟨h1, h2, h3, h4, h5⟩ := h
  refine ⟨by omega, by omega, fun j j0 j1 => by omega, fun _ => ?_, fun x x0 x1 z => ?_⟩
  · rw [show m + 1 - 0 - 1 = m by omega]; exact c
  · by_cases q : x + w ≤ m
    · exact h5 x x0 q z
    · exact z (s + m) (by omega) (by omega) c
theorem RUx.no {P : Int → Int → Prop} {w s m m' run run' : Int} (h : RUx P w s m run) (c : ¬ cov P (s + m)) (em : m' = m + 1) (er : run' = run + 1) (ne : run' < w ∨ run' ≠ w ∧ run < w) : RUx P w s m' run' := by
  subst em
  subst er
  obtain ⟨h1, h2, h3, h4, h5⟩ := h
  refine ⟨by omega, by omega, fun j j0 j1 => ?_, fun q => ?_, fun x x0 x1 z => ?_⟩
  · by_cases q : j = m
    · rw [q]; exact c
    · exact h3 j (by omega) (by omega)
  · rw [show m + 1 - (run + 1) - 1 = m - run - 1 by omega]; exact h4 (by omega)
  · by_cases q : x + w ≤ m
    · exact h5 x x0 q z
    · exact z (s + (m - run - 1)) (by omega) (by omega) (h4 (by omega))
/-- the row is long enough -/
theorem RUx.hit {P : Int → Int → Prop} {w s m run t b : Int} (h : RUx P w s m run) (c : ¬ cov P (s + m)) (e : run + 1 = w) (et : t = s + m - w + 1) (tb : t ≤ b) : FR P w s b t := by
  obtain ⟨h1, h2, h3, h4, h5⟩ := h
  refine Or.inl ⟨by omega, tb, fun y y0 y1 => ?_, fun x x0 x1 z => ?_⟩
  · by_cases q : y = s + m
    · rw [q]; exact c
    · have := h3 (y - s) (by omega) (by omega)
      rw [show s + (y - s) = y by omega] at this
      exact this
  · have v := h5 (x - s) (by omega) (by omega)
    rw [show s + (x - s) = x by omega] at v
    exact v z
/-- the first place is behind the bound -/
theorem RUx.far {P : Int → Int → Prop} {w s m run b : Int} (h : RUx P w s m run) (e : run + 1 = w) (tb : b < s + m - w + 1) : FR P w s b (-1) := by
  obtain ⟨h1, h2, h3, h4, h5⟩ := h
  refine Or.inr ⟨rfl, fun x x0 x1 z => ?_⟩
  have v := h5 (x - s) (by omega) (by omega)
  rw [show s + (x - s) = x by omega] at v
  exact v z
theorem RUx.out {P : Int → Int → Prop} {w s m run b : Int} (h : RUx P w s m run) (e : b + w ≤ s + m) : FR P w s b (-1) := by
  obtain ⟨h1, h2, h3, h4, h5⟩ := h
  refine Or.inr ⟨rfl, fun x x0 x1 z => ?_⟩
  have v := h5 (x - s) (by omega) (by omega)
  rw [show s + (x - s) = x by omega] at v
  exact v z
theorem RUx.go {P : Int → Int → Prop} {w s m m' run run' : Int} (h : RUx P w s m run) (w1 : 1 ≤ w) (hz : (run' = 0 ∧ cov P (s + m)) ∨ (run' = run + 1 ∧ ¬ cov P (s + m))) (ne : run' ≠ w) (lt : run < w) (em : m' = m + 1) : RUx P w s m' run' := hz.elim (fun z => h.yes w1 z.2 em z.1) (fun z => h.no z.2 em z.1 (Or.inl (by omega)))
theorem run_hz {P : Int → Int → Prop} {w s m run run' : Int} (hz : (run' = 0 ∧ cov P (s + m)) ∨ (run' = run + 1 ∧ ¬ cov P (s + m))) (e : run' = w) (w1 : 1 ≤ w) : run + 1 = w ∧ ¬ cov P (s + m) := hz.elim (fun z => by omega) (fun z => ⟨by omega, z.2⟩)
theorem RUx.hit2 {P : Int → Int → Prop} {w s m run run' t b : Int} (h : RUx P w s m run) (hz : (run' = 0 ∧ cov P (s + m)) ∨ (run' = run + 1 ∧ ¬ cov P (s + m))) (e : run' = w) (w1 : 1 ≤ w) (et : t = s + m - w + 1) (tb : t ≤ b) : FR P w s b t := h.hit (run_hz hz e w1).2 (run_hz hz e w1).1 et tb
theorem RUx.far2 {P : Int → Int → Prop} {w s m run run' b : Int} (h : RUx P w s m run) (hz : (run' = 0 ∧ cov P (s + m)) ∨ (run' = run + 1 ∧ ¬ cov P (s + m))) (e : run' = w) (w1 : 1 ≤ w) (tb : b < s + m - w + 1) : FR P w s b (-1) := h.far (run_hz hz e w1).1 tb
theorem OMs.cg {g g' : Int → Int} {m m' : Int} {Os : Int → Int → Int} (h : OMs g m Os) (eg : g' = g) (em : m' = m) : OMs g' m' Os := by rw [eg, em]; exact h
theorem MK.mv {g g' : Int → Int} {Os : Int → Int → Int} {room m m' s s' N N' : Int} {v : Int → Int} (h : MK (fun j => cov (OcR g' Os room m') (s + j)) N v) (eg : g' = g) (em : m' = m) (es : s' = s) (eN : N' = N) : MK (fun j => cov (OcR g Os room m) (s' + j)) N' v := by rw [es, eN, ← eg, ← em]; exact h
/-! the answers -/
theorem busy_eq {g : Int → Int} {Os : Int → Int → Int} {m room room' d d' r r' : Int} (h : (r = -1 ∧ ¬ ((0 ≤ room ∧ room ≤ 7) ∧ 0 ≤ d ∧ d ≤ 36524)) ∨ ((0 ≤ room ∧ room ≤ 7) ∧ 0 ≤ d ∧ d ≤ 36524 ∧ r = wdy (OcR g Os room m) d)) (q : (r' = -1 ∧ ¬ ((0 ≤ room' ∧ room' ≤ 7) ∧ 0 ≤ d' ∧ d' ≤ 36524)) ∨ ((0 ≤ room' ∧ room' ≤ 7) ∧ 0 ≤ d' ∧ d' ≤ 36524 ∧ r' = wdy (OcR g Os room' m) d')) (e1 : room = room') (e2 : d = d') : r = r' := by
  subst e1
  subst e2
  rcases h with ⟨h1, h2⟩ | ⟨h1, h2, h3, h4⟩ <;> rcases q with ⟨q1, q2⟩ | ⟨q1, q2, q3, q4⟩
  · omega
  · exact absurd ⟨q1, q2, q3⟩ h2
  · exact absurd ⟨h1, h2, h3⟩ q2
  · omega
theorem busiest_eq {g : Int → Int} {Os : Int → Int → Int} {m room room' a a' b b' r r' : Int} (h : (r = -1 ∧ ¬ ((0 ≤ room ∧ room ≤ 7) ∧ (0 ≤ a ∧ a ≤ b ∧ b ≤ 36524 ∧ b - a < 60))) ∨ ((0 ≤ room ∧ room ≤ 7) ∧ (0 ≤ a ∧ a ≤ b ∧ b ≤ 36524 ∧ b - a < 60) ∧ BS (wdy (OcR g Os room m)) a b r)) (q : (r' = -1 ∧ ¬ ((0 ≤ room' ∧ room' ≤ 7) ∧ (0 ≤ a' ∧ a' ≤ b' ∧ b' ≤ 36524 ∧ b' - a' < 60))) ∨ ((0 ≤ room' ∧ room' ≤ 7) ∧ (0 ≤ a' ∧ a' ≤ b' ∧ b' ≤ 36524 ∧ b' - a' < 60) ∧ BS (wdy (OcR g Os room' m)) a' b' r')) (e1 : room = room') (e2 : a = a') (e3 : b = b') : r = r' := by
  subst e1
  subst e2
  subst e3
  rcases h with ⟨h1, h2⟩ | ⟨h1, h2, h3⟩ <;> rcases q with ⟨q1, q2⟩ | ⟨q1, q2, q3⟩
  · omega
  · exact absurd ⟨q1, q2⟩ h2
  · exact absurd ⟨h1, h2⟩ q2
  · exact h3.one q3
theorem free_eq {g : Int → Int} {Os : Int → Int → Int} {m room room' a a' w w' r r' : Int} (h : (r = -1 ∧ ¬ ((0 ≤ room ∧ room ≤ 7) ∧ (0 ≤ a ∧ a ≤ 52595999 ∧ 1 ≤ w ∧ w ≤ 4320))) ∨ ((0 ≤ room ∧ room ≤ 7) ∧ (0 ≤ a ∧ a ≤ 52595999 ∧ 1 ≤ w ∧ w ≤ 4320) ∧ FR (OcR g Os room m) w a (min (a + 86400) 52595999) r)) (q : (r' = -1 ∧ ¬ ((0 ≤ room' ∧ room' ≤ 7) ∧ (0 ≤ a' ∧ a' ≤ 52595999 ∧ 1 ≤ w' ∧ w' ≤ 4320))) ∨ ((0 ≤ room' ∧ room' ≤ 7) ∧ (0 ≤ a' ∧ a' ≤ 52595999 ∧ 1 ≤ w' ∧ w' ≤ 4320) ∧ FR (OcR g Os room' m) w' a' (min (a' + 86400) 52595999) r')) (e1 : room = room') (e2 : a = a') (e3 : w = w') : r = r' := by
  subst e1
  subst e2
  subst e3
  rcases h with ⟨h1, h2⟩ | ⟨h1, h2, h3⟩ <;> rcases q with ⟨q1, q2⟩ | ⟨q1, q2, q3⟩
  · omega
  · exact absurd ⟨q1, q2⟩ h2
  · exact absurd ⟨h1, h2⟩ q2
  · exact FR.one h2.1 h3 q3
theorem wd_mv {g g' : Int → Int} {Os : Int → Int → Int} {room m m' d r : Int} (h : r = wdy (OcR g' Os room m') d) (eg : g' = g) (em : m' = m) : r = wdy (OcR g Os room m) d := by rw [← eg, ← em]; exact h
theorem wd_cn1 {P : Int → Int → Prop} {d r : Int} (h : r = cn (fun j => cov P (1440 * d + j)) 0 1440) : r = wdy P d := wd_cn (s := 1440 * d) (o := 0) (h.trans (cn_cg (fun j _ _ => by rw [show 1440 * d + (0 + j) = 1440 * d + j by omega]))) (by omega)
