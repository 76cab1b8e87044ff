/-! ===== occurrences ===== -/
/-- of the key k there is an occurrence at t -/
def Oc (g : Int → Int) (p : Int) (O : Int → Int) (t k : Int) : Prop := (KG g p k ∧ O k = -2 ∧ t = 1440 * k + g (p + 1)) ∨ (0 ≤ O k ∧ t = O k)
/-- by times, of like ones by keys -/
def Lx (t k u j : Int) : Prop := t < u ∨ (t = u ∧ k < j)
theorem Oc.key {g : Int → Int} {p t k : Int} {O : Int → Int} (h : Oc g p O t k) (hk : OKk g p O) : KG g p k := by
  rcases h with h | h
  · exact h.1
  · exact (hk k (by omega)).1
theorem Oc.rg {g : Int → Int} {p t k : Int} {O : Int → Int} (h : Oc g p O t k) (hk : OKk g p O) (hr : ∀ d : Int, KG g p d → 0 ≤ d ∧ d ≤ 36524) (m0 : 0 ≤ g (p + 1)) (m1 : g (p + 1) ≤ 1439) : 0 ≤ k ∧ k ≤ 36524 ∧ 0 ≤ t ∧ t ≤ 52595999 := by
  have a := hr k (h.key hk)
  rcases h with h | h
  · omega
  · have := (hk k (by omega)).2.2.2
    omega
theorem Oc.fn {g : Int → Int} {p t u k : Int} {O : Int → Int} (h : Oc g p O t k) (h' : Oc g p O u k) : t = u := by
  rcases h with h | h <;> rcases h' with h' | h' <;> omega
/-- what is sought from a time and a key on -/
def Sk (P : Int → Int → Prop) (u j T K : Int) : Prop := (K = -1 ∧ T = 2147483647 ∧ ∀ t k : Int, P t k → Lx t k u j) ∨ (P T K ∧ ¬ Lx T K u j ∧ ∀ t k : Int, P t k → ¬ Lx t k u j → ¬ Lx t k T K)
/-- what is sought ahead of a time -/
def Sa (P : Int → Int → Prop) (u T K : Int) : Prop := (K = -1 ∧ T = -1 ∧ ∀ t k : Int, P t k → u ≤ t) ∨ (P T K ∧ T < u ∧ ∀ t k : Int, P t k → t < u → ¬ Lx T K t k)
theorem Sk.cg {P Q : Int → Int → Prop} {u j T K : Int} (h : Sk P u j T K) (e : ∀ t k : Int, Q t k ↔ P t k) : Sk Q u j T K := by
  rcases h with ⟨h1, h2, h3⟩ | ⟨h1, h2, h3⟩
  · exact Or.inl ⟨h1, h2, fun t k z => h3 t k ((e t k).mp z)⟩
  · exact Or.inr ⟨(e T K).mpr h1, h2, fun t k z => h3 t k ((e t k).mp z)⟩
theorem Sa.cg {P Q : Int → Int → Prop} {u T K : Int} (h : Sa P u T K) (e : ∀ t k : Int, Q t k ↔ P t k) : Sa Q u T K := by
  rcases h with ⟨h1, h2, h3⟩ | ⟨h1, h2, h3⟩
  · exact Or.inl ⟨h1, h2, fun t k z => h3 t k ((e t k).mp z)⟩
  · exact Or.inr ⟨(e T K).mpr h1, h2, fun t k z => h3 t k ((e t k).mp z)⟩
theorem Sk.one {P : Int → Int → Prop} {u j T K T' K' : Int} (h : Sk P u j T K) (g : Sk P u j T' K') : T = T' ∧ K = K' := by
  rcases h with ⟨h1, h2, h3⟩ | ⟨h1, h2, h3⟩ <;> rcases g with ⟨g1, g2, g3⟩ | ⟨g1, g2, g3⟩
  · omega
  · exact absurd (h3 _ _ g1) g2
  · exact absurd (g3 _ _ h1) h2
  · have a := h3 _ _ g1 g2
    have b := g3 _ _ h1 h2
    unfold Lx at a b
    omega
theorem Sa.one {P : Int → Int → Prop} {u T K T' K' : Int} (h : Sa P u T K) (g : Sa P u T' K') : T = T' ∧ K = K' := by
  rcases h with ⟨h1, h2, h3⟩ | ⟨h1, h2, h3⟩ <;> rcases g with ⟨g1, g2, g3⟩ | ⟨g1, g2, g3⟩
  · omega
  · have := h3 _ _ g1
    omega
  · have := g3 _ _ h1
    omega
  · have a := h3 _ _ g1 g2
    have b := g3 _ _ h1 h2
    unfold Lx at a b
    omega
/-- those of a rule, and the moved ones up to a place -/
def PQ (Q : Int → Int → Prop) (A B : Int → Int) (i : Int) : Int → Int → Prop := fun t k => Q t k ∨ ∃ l : Int, 0 ≤ l ∧ l < i ∧ A l = t ∧ B l = k ∧ t ≠ -1
theorem PQ.zero {Q : Int → Int → Prop} {A B : Int → Int} {i t k : Int} (h : i ≤ 0) : PQ Q A B i t k ↔ Q t k := ⟨fun z => z.elim id (fun ⟨l, l0, l1, _⟩ => by omega), Or.inl⟩
theorem PQ.no {Q : Int → Int → Prop} {A B : Int → Int} {i a b : Int} (i0 : 0 ≤ i) (h : A i = -1) : PQ Q A B (i + 1) a b ↔ PQ Q A B i a b := by
  refine ⟨fun z => z.elim Or.inl (fun ⟨l, l0, l1, l2, l3, l4⟩ => ?_), fun z => z.elim Or.inl (fun ⟨l, l0, l1, l2⟩ => Or.inr ⟨l, l0, by omega, l2⟩)⟩
  by_cases q : l = i
  · rw [q] at l2; omega
  · exact Or.inr ⟨l, l0, by omega, l2, l3, l4⟩
theorem PQ.yes {Q : Int → Int → Prop} {A B : Int → Int} {i a b : Int} (i0 : 0 ≤ i) (h : A i ≠ -1) : PQ Q A B (i + 1) a b ↔ (PQ Q A B i a b ∨ (a = A i ∧ b = B i)) := by
  refine ⟨fun z => z.elim (fun z => Or.inl (Or.inl z)) (fun ⟨l, l0, l1, l2, l3, l4⟩ => ?_), fun z => z.elim (fun z => z.elim Or.inl (fun ⟨l, l0, l1, l2⟩ => Or.inr ⟨l, l0, by omega, l2⟩)) (fun z => Or.inr ⟨i, i0, by omega, z.1.symm, z.2.symm, by rw [z.1]; exact h⟩)⟩
  by_cases q : l = i
  · rw [q] at l2 l3; exact Or.inr ⟨l2.symm, l3.symm⟩
  · exact Or.inl (Or.inr ⟨l, l0, by omega, l2, l3, l4⟩)
theorem Sk.no {Q : Int → Int → Prop} {A B : Int → Int} {u j T K i i' t k : Int} (h : Sk (PQ Q A B i) u j T K) (et : t = A i) (ek : k = B i) (ei : i' = i + 1) (i0 : 0 ≤ i) (hn : t = -1 ∨ t < u ∨ (t = u ∧ k < j) ∨ T < t ∨ (T = t ∧ K ≤ k)) (tb : t ≤ 52595999) : Sk (PQ Q A B i') u j T K := by
  subst et
  subst ek
  subst ei
  by_cases c : A i = -1
  · exact h.cg (fun a b => PQ.no i0 c)
  · rcases h with ⟨h1, h2, h3⟩ | ⟨h1, h2, h3⟩
    · refine Or.inl ⟨h1, h2, fun a b z => ?_⟩
      rcases (PQ.yes i0 c).mp z with z | z
      · exact h3 a b z
      · unfold Lx; omega
    · refine Or.inr ⟨(PQ.yes i0 c).mpr (Or.inl h1), h2, fun a b z z2 => ?_⟩
      rcases (PQ.yes i0 c).mp z with z | z
      · exact h3 a b z z2
      · unfold Lx at z2 ⊢; omega
theorem Sk.yes {Q : Int → Int → Prop} {A B : Int → Int} {u j T K i i' t k : Int} (h : Sk (PQ Q A B i) u j T K) (et : t = A i) (ek : k = B i) (ei : i' = i + 1) (i0 : 0 ≤ i) (h1 : t ≠ -1) (h2 : u < t ∨ (t = u ∧ j ≤ k)) (h3 : t < T ∨ (t = T ∧ k < K)) : Sk (PQ Q A B i') u j t k := by
  subst et
  subst ek
  subst ei
  refine Or.inr ⟨(PQ.yes i0 h1).mpr (Or.inr ⟨rfl, rfl⟩), by unfold Lx; omega, fun a b z z2 => ?_⟩
  rcases (PQ.yes i0 h1).mp z with z | z
  · rcases h with ⟨g1, g2, g3⟩ | ⟨g1, g2, g3⟩
    · exact absurd (g3 a b z) z2
    · have w := g3 a b z z2
      unfold Lx at w ⊢; omega
  · unfold Lx; omega
theorem Sa.no {Q : Int → Int → Prop} {A B : Int → Int} {u T K i i' t k : Int} (h : Sa (PQ Q A B i) u T K) (et : t = A i) (ek : k = B i) (ei : i' = i + 1) (i0 : 0 ≤ i) (hn : t = -1 ∨ u ≤ t ∨ t < T ∨ (T = t ∧ k ≤ K)) (tb : -1 ≤ t) : Sa (PQ Q A B i') u T K := by
  subst et
  subst ek
  subst ei
  by_cases c : A i = -1
  · exact h.cg (fun a b => PQ.no i0 c)
  · rcases h with ⟨h1, h2, h3⟩ | ⟨h1, h2, h3⟩
    · refine Or.inl ⟨h1, h2, fun a b z => ?_⟩
      rcases (PQ.yes i0 c).mp z with z | z
      · exact h3 a b z
      · omega
    · refine Or.inr ⟨(PQ.yes i0 c).mpr (Or.inl h1), h2, fun a b z z2 => ?_⟩
      rcases (PQ.yes i0 c).mp z with z | z
      · exact h3 a b z z2
      · unfold Lx; omega
theorem Sa.yes {Q : Int → Int → Prop} {A B : Int → Int} {u T K i i' t k : Int} (h : Sa (PQ Q A B i) u T K) (et : t = A i) (ek : k = B i) (ei : i' = i + 1) (i0 : 0 ≤ i) (h1 : t ≠ -1) (h2 : t < u) (h3 : T < t ∨ (t = T ∧ K < k)) : Sa (PQ Q A B i') u t k := by
  subst et
  subst ek
  subst ei
  refine Or.inr ⟨(PQ.yes i0 h1).mpr (Or.inr ⟨rfl, rfl⟩), h2, fun a b z z2 => ?_⟩
  rcases (PQ.yes i0 h1).mp z with z | z
  · rcases h with ⟨g1, g2, g3⟩ | ⟨g1, g2, g3⟩
    · have := g3 a b z; omega
    · have w := g3 a b z z2
      unfold Lx at w ⊢; omega
  · unfold Lx; omega
/-- by the rule, and not told otherwise -/
def Q0 (K : Int → Prop) (O : Int → Int) (M : Int) : Int → Int → Prop := fun t k => K k ∧ O k = -2 ∧ t = 1440 * k + M
theorem pq_oc {g : Int → Int} {p n : Int} {O A B : Int → Int} (o : OdR B A n O) (t k : Int) : Oc g p O t k ↔ PQ (Q0 (KG g p) O (g (p + 1))) A B n t k := by
  constructor
  · rintro (z | ⟨z1, z2⟩)
    · exact Or.inl z
    · obtain ⟨l, l0, l1, l2⟩ := o.2.1 k (by omega)
      have w := o.at l0 l1 l2
      exact Or.inr ⟨l, l0, l1, by omega, l2, by omega⟩
  · rintro (z | ⟨l, l0, l1, l2, l3, l4⟩)
    · exact Or.inl z
    · have w := o.at l0 l1 l3
      exact Or.inr ⟨by omega, by omega⟩
/-! ===== from a time on: the first key that is as at first ===== -/
theorem sk_from {K : Int → Prop} {M u j a r : Int} (a1 : u ≤ 1440 * a + M) (a2 : 1440 * (a - 1) + M < u) (f : Fst K a r) (hr : ∀ d : Int, K d → 0 ≤ d ∧ d ≤ 36524) : (r ≠ -1 ∧ r < j ∧ 1440 * r + M = u → ∀ d : Int, K d → (r + 1 ≤ d ↔ ¬ Lx (1440 * d + M) d u j)) ∧ (r = -1 ∨ j ≤ r ∨ 1440 * r + M ≠ u → ∀ d : Int, K d → (a ≤ d ↔ ¬ Lx (1440 * d + M) d u j)) := by
  constructor
  · rintro ⟨h1, h2, h3⟩ d kd
    unfold Lx
    omega
  · intro h d kd
    have hd := hr d kd
    unfold Lx
    constructor
    · intro h1
      rintro (z | ⟨z1, z2⟩)
      · omega
      · have e : d = a := by omega
        rcases f with ⟨f1, f2, f3, f4⟩ | ⟨f1, f2⟩
        · rcases Int.lt_or_le d r with c | c
          · exact f4 d h1 c kd
          · omega
        · exact f2 d h1 hd.2 kd
    · intro h1
      omega
def LQ (K : Int → Prop) (O : Int → Int) (a r i : Int) : Prop := ((r = -1 ∧ ∀ d : Int, a ≤ d → K d → O d ≠ -2) ∨ (K r ∧ a ≤ r ∧ ∀ d : Int, a ≤ d → d < r → K d → O d ≠ -2)) ∧ (r = -1 ∨ (0 ≤ r ∧ i ≤ cn (fun k => O k ≠ -2) 0 r))
theorem LQ.start {K : Int → Prop} {O : Int → Int} {a r i : Int} (f : Fst K a r) (hr : ∀ d : Int, K d → 0 ≤ d ∧ d ≤ 36524) (hi : i = 0) : LQ K O a r i := by
  rcases f with ⟨f1, f2, f3, f4⟩ | ⟨f1, f2⟩
  · exact ⟨Or.inr ⟨f3, f1, fun d d0 d1 kd => absurd kd (f4 d d0 d1)⟩, Or.inr ⟨(hr _ f3).1, by rw [hi]; exact cn_pos.1⟩⟩
  · exact ⟨Or.inl ⟨f1, fun d d0 kd => absurd kd (f2 d d0 (hr d kd).2)⟩, Or.inl f1⟩
theorem LQ.step {K : Int → Prop} {O : Int → Int} {a r r' i i' b : Int} (h : LQ K O a r i) (n : r ≠ -1) (o : O r ≠ -2) (f : Fst K b r') (eb : b = r + 1) (ei : i' = i + 1) (hr : ∀ d : Int, K d → 0 ≤ d ∧ d ≤ 36524) : LQ K O a r' i' := by
  subst eb
  subst ei
  obtain ⟨h1, h2⟩ := h
  rcases h1 with ⟨h1, _⟩ | ⟨h1, h3, h4⟩
  · exact absurd h1 n
  · rcases h2 with h2 | ⟨h2, h5⟩
    · exact absurd h2 n
    · rcases f with ⟨f1, f2, f3, f4⟩ | ⟨f1, f2⟩
      · refine ⟨Or.inr ⟨f3, by omega, fun d d0 d1 kd => ?_⟩, Or.inr ⟨by omega, ?_⟩⟩
        · rcases Int.lt_trichotomy d r with c | c | c
          · exact h4 d d0 c kd
          · rw [c]; exact o
          · exact absurd kd (f4 d (by omega) d1)
        · have e := cn_yes (p := fun k => O k ≠ -2) (a := 0) (b := r) h2 o
          have u := cn_up (p := fun k => O k ≠ -2) (a := 0) (b := r + 1) (c := r') f1
          omega
      · refine ⟨Or.inl ⟨f1, fun d d0 kd => ?_⟩, Or.inl f1⟩
        rcases Int.lt_trichotomy d r with c | c | c
        · exact h4 d d0 c kd
        · rw [c]; exact o
        · exact absurd kd (f2 d (by omega) (hr d kd).2)
def RZ (K : Int → Prop) (O : Int → Int) (a r : Int) : Prop := (r = -1 ∧ ∀ d : Int, a ≤ d → K d → O d ≠ -2) ∨ (K r ∧ O r = -2 ∧ a ≤ r ∧ ∀ d : Int, a ≤ d → d < r → K d → O d ≠ -2)
theorem LQ.out {K : Int → Prop} {O : Int → Int} {a r i n : Int} (h : LQ K O a r i) (hn : n = cn (fun k => O k ≠ -2) 0 36525) (hr : ∀ d : Int, K d → 0 ≤ d ∧ d ≤ 36524) (c : r = -1 ∨ n ≤ i ∨ O r = -2) : RZ K O a r := by
  obtain ⟨h1, h2⟩ := h
  rcases h1 with h1 | ⟨h1, h3, h4⟩
  · exact Or.inl h1
  · have b := hr r h1
    refine Or.inr ⟨h1, ?_, h3, h4⟩
    rcases Classical.em (O r = -2) with o | o
    · exact o
    · have u := cn_lt (p := fun k => O k ≠ -2) (a := 0) (b := r) (c := 36525) b.1 (by omega) o
      omega
theorem RZ.sk {K : Int → Prop} {O : Int → Int} {a r M u j T : Int} (h : RZ K O a r) (hc : ∀ d : Int, K d → (a ≤ d ↔ ¬ Lx (1440 * d + M) d u j)) (hr : ∀ d : Int, K d → 0 ≤ d ∧ d ≤ 36524) (ht : (r = -1 ∧ T = 2147483647) ∨ (r ≠ -1 ∧ T = 1440 * r + M)) : Sk (Q0 K O M) u j T r := by
  rcases h with ⟨h1, h2⟩ | ⟨h1, h2, h3, h4⟩
  · refine Or.inl ⟨h1, by omega, fun t k ⟨q1, q2, q3⟩ => ?_⟩
    rcases Classical.em (Lx t k u j) with z | z
    · exact z
    · rw [q3] at z
      exact absurd q2 (h2 k ((hc k q1).mpr z) q1)
  · have b := hr r h1
    have e : T = 1440 * r + M := by omega
    refine Or.inr ⟨⟨h1, h2, e⟩, by rw [e]; exact (hc r h1).mp h3, fun t k ⟨q1, q2, q3⟩ z => ?_⟩
    rw [q3] at z
    have w := (hc k q1).mpr z
    rcases Int.lt_or_le k r with c | c
    · exact absurd q2 (h4 k w c q1)
    · unfold Lx; omega
/-! ===== ahead of a time ===== -/
def LR (K : Int → Prop) (O : Int → Int) (b r i : Int) : Prop := ((r = -1 ∧ ∀ d : Int, d ≤ b → K d → O d ≠ -2) ∨ (K r ∧ r ≤ b ∧ ∀ d : Int, r < d → d ≤ b → K d → O d ≠ -2)) ∧ (r = -1 ∨ (0 ≤ r ∧ i ≤ cn (fun k => O k ≠ -2) (r + 1) 36525))
theorem LR.start {K : Int → Prop} {O : Int → Int} {b r i : Int} (f : Lst K b r) (hr : ∀ d : Int, K d → 0 ≤ d ∧ d ≤ 36524) (hi : i = 0) : LR K O b r i := by
  rcases f with ⟨f1, f2, f3, f4⟩ | ⟨f1, f2⟩
  · exact ⟨Or.inr ⟨f3, f2, fun d d0 d1 kd => absurd kd (f4 d d0 d1)⟩, Or.inr ⟨f1, by rw [hi]; exact cn_pos.1⟩⟩
  · exact ⟨Or.inl ⟨f1, fun d d0 kd => absurd kd (f2 d (hr d kd).1 d0)⟩, Or.inl f1⟩
theorem LR.step {K : Int → Prop} {O : Int → Int} {b r r' i i' c : Int} (h : LR K O b r i) (n : r ≠ -1) (o : O r ≠ -2) (f : Lst K c r') (eb : c = r - 1) (ei : i' = i + 1) (hr : ∀ d : Int, K d → 0 ≤ d ∧ d ≤ 36524) : LR K O b r' i' := by
  subst eb
  subst ei
  obtain ⟨h1, h2⟩ := h
  rcases h1 with ⟨h1, _⟩ | ⟨h1, h3, h4⟩
  · exact absurd h1 n
  · have hb := hr r h1
    rcases h2 with h2 | ⟨h2, h5⟩
    · exact absurd h2 n
    · rcases f with ⟨f1, f2, f3, f4⟩ | ⟨f1, f2⟩
      · refine ⟨Or.inr ⟨f3, by omega, fun d d0 d1 kd => ?_⟩, Or.inr ⟨f1, ?_⟩⟩
        · rcases Int.lt_trichotomy d r with c | c | c
          · exact absurd kd (f4 d d0 (by omega))
          · rw [c]; exact o
          · exact h4 d c d1 kd
        · have e1 := cn_add (p := fun k => O k ≠ -2) (a := r' + 1) (b := r) (c := 36525) (by omega) (by omega)
          have e2 := cn_add (p := fun k => O k ≠ -2) (a := r) (b := r + 1) (c := 36525) (by omega) (by omega)
          have e3 := cn_yes (p := fun k => O k ≠ -2) (a := r) (b := r) (Int.le_refl r) o
          have e4 := (cn_pos (p := fun k => O k ≠ -2) (a := r' + 1) (b := r)).1
          have e5 := (cn_pos (p := fun k => O k ≠ -2) (a := r) (b := r)).1
          omega
      · refine ⟨Or.inl ⟨f1, fun d d0 kd => ?_⟩, Or.inl f1⟩
        rcases Int.lt_trichotomy d r with c | c | c
        · exact absurd kd (f2 d (hr d kd).1 (by omega))
        · rw [c]; exact o
        · exact h4 d c d0 kd
def RY (K : Int → Prop) (O : Int → Int) (b r : Int) : Prop := (r = -1 ∧ ∀ d : Int, d ≤ b → K d → O d ≠ -2) ∨ (K r ∧ O r = -2 ∧ r ≤ b ∧ ∀ d : Int, r < d → d ≤ b → K d → O d ≠ -2)
theorem LR.out {K : Int → Prop} {O : Int → Int} {b r i n : Int} (h : LR K O b r i) (hn : n = cn (fun k => O k ≠ -2) 0 36525) (hr : ∀ d : Int, K d → 0 ≤ d ∧ d ≤ 36524) (c : r = -1 ∨ n ≤ i ∨ O r = -2) : RY K O b r := by
  obtain ⟨h1, h2⟩ := h
  rcases h1 with h1 | ⟨h1, h3, h4⟩
  · exact Or.inl h1
  · have b := hr r h1
    refine Or.inr ⟨h1, ?_, h3, h4⟩
    rcases Classical.em (O r = -2) with o | o
    · exact o
    · have e1 := cn_add (p := fun k => O k ≠ -2) (a := 0) (b := r) (c := 36525) b.1 (by omega)
      have e2 := cn_add (p := fun k => O k ≠ -2) (a := r) (b := r + 1) (c := 36525) (by omega) (by omega)
      have e3 := cn_yes (p := fun k => O k ≠ -2) (a := r) (b := r) (Int.le_refl r) o
      have e4 := (cn_pos (p := fun k => O k ≠ -2) (a := 0) (b := r)).1
      have e5 := (cn_pos (p := fun k => O k ≠ -2) (a := r) (b := r)).1
      omega
theorem RY.sa {K : Int → Prop} {O : Int → Int} {b r M u T : Int} (h : RY K O b r) (b1 : 1440 * b + M < u) (b2 : u ≤ 1440 * (b + 1) + M) (hr : ∀ d : Int, K d → 0 ≤ d ∧ d ≤ 36524) (ht : (r = -1 ∧ T = -1) ∨ (r ≠ -1 ∧ T = 1440 * r + M)) : Sa (Q0 K O M) u T r := by
  rcases h with ⟨h1, h2⟩ | ⟨h1, h2, h3, h4⟩
  · refine Or.inl ⟨h1, by omega, fun t k ⟨q1, q2, q3⟩ => ?_⟩
    rcases Int.lt_or_le b k with c | c
    · omega
    · exact absurd q2 (h2 k c q1)
  · have hb := hr r h1
    have e : T = 1440 * r + M := by omega
    refine Or.inr ⟨⟨h1, h2, e⟩, by omega, fun t k ⟨q1, q2, q3⟩ z => ?_⟩
    rcases Int.lt_or_le r k with c | c
    · exact absurd q2 (h4 k c (by omega) q1)
    · unfold Lx; omega
/-! ===== how many begin from a time to another one ===== -/
noncomputable def NB (g : Int → Int) (p : Int) (O : Int → Int) (u v : Int) : Int := cn (fun k => ∃ t : Int, Oc g p O t k ∧ u ≤ t ∧ t ≤ v) 0 36525
theorem cn_or {p q : Int → Prop} {a b : Int} (h : ∀ d : Int, a ≤ d → d < b → ¬ (p d ∧ q d)) : cn (fun d => p d ∨ q d) a b = cn p a b + cn q a b := by
  rcases Int.lt_or_le b a with c | c
  · rw [cn_le (by omega), cn_le (by omega), cn_le (by omega)]; rfl
  · have k : ∀ n : Nat, (n : Int) ≤ b - a → cn (fun d => p d ∨ q d) a (a + n) = cn p a (a + n) + cn q a (a + n) := by
      intro n
      induction n with
      | zero => intro _; rw [cn_le (by omega), cn_le (by omega), cn_le (by omega)]; rfl
      | succ n ih =>
        intro hn
        have z := h (a + n) (by omega) (by omega)
        have i := ih (by omega)
        rw [show a + ((n + 1 : Nat) : Int) = a + n + 1 by omega]
        rcases Classical.em (p (a + n)) with c1 | c1 <;> rcases Classical.em (q (a + n)) with c2 | c2
        · exact absurd ⟨c1, c2⟩ z
        · rw [cn_yes (p := fun d => p d ∨ q d) (by omega) (Or.inl c1), cn_yes (p := p) (by omega) c1, cn_no (p := q) (by omega) c2, i]; omega
        · rw [cn_yes (p := fun d => p d ∨ q d) (by omega) (Or.inr c2), cn_no (p := p) (by omega) c1, cn_yes (p := q) (by omega) c2, i]; omega
        · rw [cn_no (p := fun d => p d ∨ q d) (by omega) (fun w => w.elim c1 c2), cn_no (p := p) (by omega) c1, cn_no (p := q) (by omega) c2, i]
    have := k (b - a).toNat (by omega)
    rw [show a + (((b - a).toNat : Nat) : Int) = b by omega] at this
    exact this
/-- a count over some days, as one over all -/
theorem cn_in {K : Int → Prop} {a b : Int} (hr : ∀ d : Int, K d → 0 ≤ d ∧ d ≤ 36524) : cn K a (b + 1) = cn (fun d => K d ∧ a ≤ d ∧ d ≤ b) 0 36525 := by
  rcases Int.lt_or_le b a with c | c
  · rw [cn_le (by omega)]
    exact (cn_none (fun d _ _ z => by omega)).symm
  · have e1 : ∀ l h : Int, l ≤ a → b + 1 ≤ h → cn (fun d => K d ∧ a ≤ d ∧ d ≤ b) l h = cn K a (b + 1) := by
      intro l h l0 h0
      have a1 := cn_add (p := fun d => K d ∧ a ≤ d ∧ d ≤ b) (a := l) (b := a) (c := h) l0 (by omega)
      have a2 := cn_add (p := fun d => K d ∧ a ≤ d ∧ d ≤ b) (a := a) (b := b + 1) (c := h) (by omega) h0
      have a3 : cn (fun d => K d ∧ a ≤ d ∧ d ≤ b) l a = 0 := cn_none (fun d _ _ z => by omega)
      have a4 : cn (fun d => K d ∧ a ≤ d ∧ d ≤ b) (b + 1) h = 0 := cn_none (fun d _ _ z => by omega)
      have a5 : cn (fun d => K d ∧ a ≤ d ∧ d ≤ b) a (b + 1) = cn K a (b + 1) := cn_cg (fun d _ _ => ⟨fun z => z.1, fun z => ⟨z, by omega, by omega⟩⟩)
      omega
    have e2 := e1 (min a 0) (max (b + 1) 36525) (by omega) (by omega)
    have b1 := cn_add (p := fun d => K d ∧ a ≤ d ∧ d ≤ b) (a := min a 0) (b := 0) (c := max (b + 1) 36525) (by omega) (by omega)
    have b2 := cn_add (p := fun d => K d ∧ a ≤ d ∧ d ≤ b) (a := 0) (b := 36525) (c := max (b + 1) 36525) (by omega) (by omega)
    have b3 : cn (fun d => K d ∧ a ≤ d ∧ d ≤ b) (min a 0) 0 = 0 := cn_none (fun d _ _ z => by have := hr d z.1; omega)
    have b4 : cn (fun d => K d ∧ a ≤ d ∧ d ≤ b) 36525 (max (b + 1) 36525) = 0 := cn_none (fun d _ _ z => by have := hr d z.1; omega)
    omega
theorem nb_fin {g : Int → Int} {p n a b u v c : Int} {O A B : Int → Int} (o : OdR B A n O) (n0 : 0 ≤ n) (hk : OKk g p O) (hr : ∀ d : Int, KG g p d → 0 ≤ d ∧ d ≤ 36524) (a1 : u ≤ 1440 * a + g (p + 1)) (a2 : 1440 * (a - 1) + g (p + 1) < u) (b1 : 1440 * b + g (p + 1) ≤ v) (b2 : v < 1440 * (b + 1) + g (p + 1)) (e : c = cn (KG g p) a (b + 1) - cn (fun i => a ≤ B i ∧ B i ≤ b) 0 n + cn (fun i => A i ≠ -1 ∧ u ≤ A i ∧ A i ≤ v) 0 n) : c = NB g p O u v := by
  have e1 : cn (fun i => a ≤ B i ∧ B i ≤ b) 0 n = cn (fun d => O d ≠ -2 ∧ a ≤ d ∧ d ≤ b) 0 36525 := o.cnt n0 hk.kb (fun k _ => a ≤ k ∧ k ≤ b)
  have e2 : cn (fun i => A i ≠ -1 ∧ u ≤ A i ∧ A i ≤ v) 0 n = cn (fun d => O d ≠ -2 ∧ O d ≠ -1 ∧ u ≤ O d ∧ O d ≤ v) 0 36525 := o.cnt n0 hk.kb (fun _ t => t ≠ -1 ∧ u ≤ t ∧ t ≤ v)
  have e3 := cn_in (K := KG g p) (a := a) (b := b) hr
  have e4 : cn (fun d => KG g p d ∧ a ≤ d ∧ d ≤ b) 0 36525 = cn (fun d => (KG g p d ∧ O d = -2 ∧ a ≤ d ∧ d ≤ b) ∨ (O d ≠ -2 ∧ a ≤ d ∧ d ≤ b)) 0 36525 := cn_cg (fun d _ _ => ⟨fun z => (Classical.em (O d = -2)).elim (fun w => Or.inl ⟨z.1, w, z.2⟩) (fun w => Or.inr ⟨w, z.2⟩), fun z => z.elim (fun z => ⟨z.1, z.2.2⟩) (fun z => ⟨(hk d z.1).1, z.2⟩)⟩)
  have e5 : cn (fun d => (KG g p d ∧ O d = -2 ∧ a ≤ d ∧ d ≤ b) ∨ (O d ≠ -2 ∧ a ≤ d ∧ d ≤ b)) 0 36525 = cn (fun d => KG g p d ∧ O d = -2 ∧ a ≤ d ∧ d ≤ b) 0 36525 + cn (fun d => O d ≠ -2 ∧ a ≤ d ∧ d ≤ b) 0 36525 := cn_or (p := fun d => KG g p d ∧ O d = -2 ∧ a ≤ d ∧ d ≤ b) (q := fun d => O d ≠ -2 ∧ a ≤ d ∧ d ≤ b) (a := 0) (b := 36525) (fun d _ _ z => z.2.1 z.1.2.1)
  have e6 : NB g p O u v = cn (fun d => (KG g p d ∧ O d = -2 ∧ a ≤ d ∧ d ≤ b) ∨ (O d ≠ -2 ∧ O d ≠ -1 ∧ u ≤ O d ∧ O d ≤ v)) 0 36525 := cn_cg (fun d _ _ => by
    constructor
    · rintro ⟨t, h, t0, t1⟩
      rcases h with ⟨h1, h2, h3⟩ | ⟨h1, h2⟩
      · exact Or.inl ⟨h1, h2, by omega, by omega⟩
      · exact Or.inr ⟨by omega, by omega, by omega, by omega⟩
    · rintro (⟨h1, h2, h3, h4⟩ | ⟨h1, h2, h3, h4⟩)
      · exact ⟨_, Or.inl ⟨h1, h2, rfl⟩, by omega, by omega⟩
      · have lo := o.lo d
        exact ⟨_, Or.inr ⟨by omega, rfl⟩, h3, h4⟩)
  have e7 : cn (fun d => (KG g p d ∧ O d = -2 ∧ a ≤ d ∧ d ≤ b) ∨ (O d ≠ -2 ∧ O d ≠ -1 ∧ u ≤ O d ∧ O d ≤ v)) 0 36525 = cn (fun d => KG g p d ∧ O d = -2 ∧ a ≤ d ∧ d ≤ b) 0 36525 + cn (fun d => O d ≠ -2 ∧ O d ≠ -1 ∧ u ≤ O d ∧ O d ≤ v) 0 36525 := cn_or (p := fun d => KG g p d ∧ O d = -2 ∧ a ≤ d ∧ d ≤ b) (q := fun d => O d ≠ -2 ∧ O d ≠ -1 ∧ u ≤ O d ∧ O d ≤ v) (a := 0) (b := 36525) (fun d _ _ z => z.2.1 z.1.2.1)
  rw [e, e1, e2, e3, e4, e5, e6, e7, Int.add_sub_cancel]
/-! ===== a row of occurrences, in order ===== -/
def LL (P : Int → Int → Prop) (tm ks : Int → Int) (n : Int) : Prop := 0 ≤ n ∧ (∀ i : Int, 0 ≤ i → i < n → P (tm i) (ks i)) ∧ (∀ i j : Int, 0 ≤ i → i < j → j < n → Lx (tm i) (ks i) (tm j) (ks j)) ∧ ∀ t k : Int, P t k → ∃ i : Int, 0 ≤ i ∧ i < n ∧ tm i = t ∧ ks i = k
theorem LL.cg {P Q : Int → Int → Prop} {tm ks : Int → Int} {n : Int} (h : LL P tm ks n) (e : ∀ t k : Int, Q t k ↔ P t k) : LL Q tm ks n :=
  ⟨h.1, fun i i0 i1 => (e _ _).mpr (h.2.1 i i0 i1), h.2.2.1, fun t k z => h.2.2.2 t k ((e t k).mp z)⟩
theorem LL.row {P : Int → Int → Prop} {tm ks tm' ks' : Int → Int} {n n' : Int} (h : LL P tm ks n) (en : n' = n) (et : ∀ i : Int, 0 ≤ i → i < n → tm' i = tm i) (ek : ∀ i : Int, 0 ≤ i → i < n → ks' i = ks i) : LL P tm' ks' n' := by
  subst en
  refine ⟨h.1, fun i i0 i1 => ?_, fun i j i0 ij j1 => ?_, fun t k z => ?_⟩
  · rw [et i i0 i1, ek i i0 i1]; exact h.2.1 i i0 i1
  · rw [et i i0 (by omega), ek i i0 (by omega), et j (by omega) j1, ek j (by omega) j1]; exact h.2.2.1 i j i0 ij j1
  · obtain ⟨i, i0, i1, i2, i3⟩ := h.2.2.2 t k z
    exact ⟨i, i0, i1, by rw [et i i0 i1]; exact i2, by rw [ek i i0 i1]; exact i3⟩
theorem LL.push {P Q : Int → Int → Prop} {tm ks tm' ks' : Int → Int} {n n' t k : Int} (h : LL P tm ks n) (en : n' = n + 1) (et : ∀ i : Int, 0 ≤ i → i < n → tm' i = tm i) (ek : ∀ i : Int, 0 ≤ i → i < n → ks' i = ks i) (vt : tm' n = t) (vk : ks' n = k) (hi : ∀ a b : Int, P a b → Lx a b t k) (e : ∀ a b : Int, Q a b ↔ (P a b ∨ (a = t ∧ b = k))) : LL Q tm' ks' n' := by
  subst en
  have h0 := h.1
  refine ⟨by omega, fun i i0 i1 => ?_, fun i j i0 ij j1 => ?_, fun a b z => ?_⟩
  · by_cases q : i = n
    · rw [q, vt, vk]; exact (e _ _).mpr (Or.inr ⟨rfl, rfl⟩)
    · rw [et i i0 (by omega), ek i i0 (by omega)]; exact (e _ _).mpr (Or.inl (h.2.1 i i0 (by omega)))
  · rw [et i i0 (by omega), ek i i0 (by omega)]
    by_cases q : j = n
    · rw [q, vt, vk]; exact hi _ _ (h.2.1 i i0 (by omega))
    · rw [et j (by omega) (by omega), ek j (by omega) (by omega)]; exact h.2.2.1 i j i0 ij (by omega)
  · rcases (e a b).mp z with z | z
    · obtain ⟨i, i0, i1, i2, i3⟩ := h.2.2.2 a b z
      exact ⟨i, i0, by omega, by rw [et i i0 i1]; exact i2, by rw [ek i i0 i1]; exact i3⟩
    · exact ⟨n, h0, by omega, vt.trans z.1.symm, vk.trans z.2.symm⟩
/-! those of the rule, that are as at first -/
def P1 (Kf O : Int → Int) (M k : Int) : Int → Int → Prop := fun t d => O d = -2 ∧ t = 1440 * d + M ∧ ∃ j : Int, 0 ≤ j ∧ j < k ∧ Kf j = d
def LPo (Kf K T O : Int → Int) (M b all n k : Int) : Prop := n ≤ k ∧ (∀ j : Int, k ≤ j → j < all → K (b + j) = Kf j) ∧ LL (P1 Kf O M k) (fun i => T (b + i)) (fun i => K (b + i)) n
theorem LPo.init {Kf K T O : Int → Int} {M b all n k : Int} (e : ∀ j : Int, K (b + j) = Kf j) (hn : n = 0) (hk : k = 0) : LPo Kf K T O M b all n k := by
  subst hn
  subst hk
  exact ⟨Int.le_refl 0, fun j _ _ => e j, Int.le_refl 0, fun i i0 i1 => by omega, fun i j i0 ij j1 => by omega, fun t d ⟨_, _, j, j0, j1, _⟩ => by omega⟩
theorem LPo.at {Kf K T O : Int → Int} {M b all n k : Int} (h : LPo Kf K T O M b all n k) (hk : k < all) : K (b + k) = Kf k := h.2.1 k (Int.le_refl k) hk
theorem LPo.skip {Kf K T O : Int → Int} {M b all n k k' : Int} (h : LPo Kf K T O M b all n k) (o : O (Kf k) ≠ -2) (ek : k' = k + 1) : LPo Kf K T O M b all n k' := by
  subst ek
  refine ⟨by have := h.1; omega, fun j j0 j1 => h.2.1 j (by omega) j1, h.2.2.cg (fun t d => ⟨fun ⟨a, b, j, j0, j1, j2⟩ => ⟨a, b, j, j0, ?_, j2⟩, fun ⟨a, b, j, j0, j1, j2⟩ => ⟨a, b, j, j0, by omega, j2⟩⟩)⟩
  by_cases q : j = k
  · rw [q] at j2
    rw [← j2] at a
    exact absurd a o
  · omega
theorem LPo.keep {Kf K T K' T' O : Int → Int} {M b all n k n' k' : Int} (h : LPo Kf K T O M b all n k) (k0 : 0 ≤ k) (k1 : k < all) (hb : 0 ≤ b) (o : O (Kf k) = -2) (inc : ∀ i j : Int, 0 ≤ i → i < j → j < all → Kf i < Kf j) (eK : ∀ x : Int, 0 ≤ x → x ≠ b + n → K' x = K x) (vK : K' (b + n) = Kf k) (eT : ∀ x : Int, 0 ≤ x → x ≠ b + n → T' x = T x) (vT : T' (b + n) = 1440 * Kf k + M) (en : n' = n + 1) (ek : k' = k + 1) : LPo Kf K' T' O M b all n' k' := by
  subst en
  subst ek
  obtain ⟨h1, h2, h3⟩ := h
  have n0 := h3.1
  refine ⟨by omega, fun j j0 j1 => (eK _ (by omega) (by omega)).trans (h2 j (by omega) j1), h3.push rfl (fun i i0 i1 => eT _ (by omega) (by omega)) (fun i i0 i1 => eK _ (by omega) (by omega)) vT vK (fun a d z => ?_) (fun a d => ⟨fun z => ?_, fun z => ?_⟩)⟩
  · obtain ⟨z1, z2, j, j0, j1, j2⟩ := z
    have := inc j k j0 j1 k1
    unfold Lx
    omega
  · obtain ⟨z1, z2, j, j0, j1, j2⟩ := z
    by_cases q : j = k
    · rw [q] at j2
      right
      exact ⟨by rw [j2]; exact z2, j2.symm⟩
    · left
      exact ⟨z1, z2, j, j0, by omega, j2⟩
  · rcases z with ⟨z1, z2, j, j0, j1, j2⟩ | ⟨z1, z2⟩
    · exact ⟨z1, z2, j, j0, by omega, j2⟩
    · exact ⟨by rw [z2]; exact o, by rw [z2]; exact z1, k, k0, by omega, z2.symm⟩
theorem LPo.to {Kf K T O : Int → Int} {M b all n k n' k' : Int} (h : LPo Kf K T O M b all n k) (e1 : n' = n) (e2 : k' = k) : LPo Kf K T O M b all n' k' := by rw [e1, e2]; exact h
theorem LPo.done {Kf K T O A B : Int → Int} {M b all n k i : Int} {P : Int → Prop} (h : LPo Kf K T O M b all n k) (kl : KL P Kf all) (hk : k = all) (hi : i = 0) : LL (PQ (Q0 P O M) A B i) (fun i => T (b + i)) (fun i => K (b + i)) n := by
  subst hk
  refine h.2.2.cg (fun t d => (PQ.zero (by omega)).trans ⟨fun ⟨z1, z2, z3⟩ => ⟨z2, z3, ?_⟩, fun ⟨z1, z2, j, j0, j1, j2⟩ => ⟨?_, z1, z2⟩⟩)
  · obtain ⟨j, j0, j1, j2⟩ := kl.2.2.2 d z1
    exact ⟨j, j0, j1, j2⟩
  · rw [← j2]; exact kl.2.1 j j0 j1
/-! a moved one comes to its place -/
def LNx (P : Int → Int → Prop) (T K : Int → Int) (b n a t k : Int) : Prop := ∃ tm ks : Int → Int, LL P tm ks n ∧ 0 ≤ a ∧ a ≤ n ∧ (∀ i : Int, 0 ≤ i → i < a → T (b + i) = tm i ∧ K (b + i) = ks i) ∧ (∀ i : Int, a ≤ i → i < n → T (b + i + 1) = tm i ∧ K (b + i + 1) = ks i) ∧ ∀ i : Int, a ≤ i → i < n → Lx t k (tm i) (ks i)
theorem LNx.enter {P : Int → Int → Prop} {T K : Int → Int} {b n a t k : Int} (h : LL P (fun i => T (b + i)) (fun i => K (b + i)) n) (e : a = n) : LNx P T K b n a t k := by
  subst e
  exact ⟨_, _, h, h.1, Int.le_refl _, fun i _ _ => ⟨rfl, rfl⟩, fun i i0 i1 => by omega, fun i i0 i1 => by omega⟩
theorem LNx.shift {P : Int → Int → Prop} {T K T' K' : Int → Int} {b n a a' t k : Int} (h : LNx P T K b n a t k) (a0 : 0 < a) (hb : 0 ≤ b) (ea : a' = a - 1) (lt : t < T (b + a - 1) ∨ (T (b + a - 1) = t ∧ k < K (b + a - 1))) (vT : T' (b + a) = T (b + a - 1)) (eT : ∀ x : Int, 0 ≤ x → x ≠ b + a → T' x = T x) (vK : K' (b + a) = K (b + a - 1)) (eK : ∀ x : Int, 0 ≤ x → x ≠ b + a → K' x = K x) : LNx P T' K' b n a' t k := by
  subst ea
  obtain ⟨tm, ks, h1, h2, h3, h4, h5, h6⟩ := h
  have w := h4 (a - 1) (by omega) (by omega)
  rw [show b + (a - 1) = b + a - 1 by omega] at w
  refine ⟨tm, ks, h1, by omega, by omega, fun i i0 i1 => ?_, fun i i0 i1 => ?_, fun i i0 i1 => ?_⟩
  · rw [eT _ (by omega) (by omega), eK _ (by omega) (by omega)]; exact h4 i i0 (by omega)
  · by_cases q : i = a - 1
    · rw [q, show b + (a - 1) + 1 = b + a by omega, vT, vK]; exact w
    · rw [eT _ (by omega) (by omega), eK _ (by omega) (by omega)]; exact h5 i (by omega) i1
  · by_cases q : i = a - 1
    · rw [q, ← w.1, ← w.2]; unfold Lx; omega
    · exact h6 i (by omega) i1
theorem LNx.to {P : Int → Int → Prop} {T K : Int → Int} {b n a a' t k : Int} (h : LNx P T K b n a t k) (e : a' = a) : LNx P T K b n a' t k := by rw [e]; exact h
theorem LNx.fill {P Q : Int → Int → Prop} {T K T' K' : Int → Int} {b n a n' t k : Int} (h : LNx P T K b n a t k) (hb : 0 ≤ b) (en : n' = n + 1) (ge : a ≤ 0 ∨ T (b + a - 1) < t ∨ (T (b + a - 1) = t ∧ K (b + a - 1) ≤ k)) (np : ¬ P t k) (vT : T' (b + a) = t) (eT : ∀ x : Int, 0 ≤ x → x ≠ b + a → T' x = T x) (vK : K' (b + a) = k) (eK : ∀ x : Int, 0 ≤ x → x ≠ b + a → K' x = K x) (e : ∀ u d : Int, Q u d ↔ (P u d ∨ (u = t ∧ d = k))) : LL Q (fun i => T' (b + i)) (fun i => K' (b + i)) n' := by
  subst en
  obtain ⟨tm, ks, h1, h2, h3, h4, h5, h6⟩ := h
  have lo : ∀ i : Int, 0 ≤ i → i < a → T' (b + i) = tm i ∧ K' (b + i) = ks i := fun i i0 i1 => by
    rw [eT _ (by omega) (by omega), eK _ (by omega) (by omega)]; exact h4 i i0 i1
  have hi : ∀ i : Int, a ≤ i → i < n → T' (b + (i + 1)) = tm i ∧ K' (b + (i + 1)) = ks i := fun i i0 i1 => by
    rw [← Int.add_assoc, eT _ (by omega) (by omega), eK _ (by omega) (by omega)]; exact h5 i i0 i1
  have below : ∀ i : Int, 0 ≤ i → i < a → Lx (tm i) (ks i) t k := by
    intro i i0 i1
    have w := h4 (a - 1) (by omega) (by omega)
    rw [show b + (a - 1) = b + a - 1 by omega] at w
    have p := h1.2.1 (a - 1) (by omega) (by omega)
    have last : Lx (tm (a - 1)) (ks (a - 1)) t k := by
      rcases ge with c | c | ⟨c1, c2⟩
      · omega
      · unfold Lx; omega
      · by_cases q : ks (a - 1) = k
        · rw [q, show tm (a - 1) = t by omega] at p
          exact absurd p np
        · unfold Lx; omega
    by_cases q : i = a - 1
    · rw [q]; exact last
    · have z := h1.2.2.1 i (a - 1) i0 (by omega) (by omega)
      unfold Lx at z last ⊢
      omega
  have split : ∀ i : Int, 0 ≤ i → i < n + 1 → (i < a ∧ T' (b + i) = tm i ∧ K' (b + i) = ks i) ∨ (i = a ∧ T' (b + i) = t ∧ K' (b + i) = k) ∨ (a < i ∧ T' (b + i) = tm (i - 1) ∧ K' (b + i) = ks (i - 1)) := by
    intro i i0 i1
    rcases Int.lt_trichotomy i a with c | c | c
    · exact Or.inl ⟨c, lo i i0 c⟩
    · exact Or.inr (Or.inl ⟨c, by rw [c]; exact vT, by rw [c]; exact vK⟩)
    · have z := hi (i - 1) (by omega) (by omega)
      rw [show i - 1 + 1 = i by omega] at z
      exact Or.inr (Or.inr ⟨c, z⟩)
  refine ⟨by omega, fun i i0 i1 => ?_, fun i j i0 ij j1 => ?_, fun u d z => ?_⟩
  · show Q (T' (b + i)) (K' (b + i))
    rcases split i i0 i1 with ⟨c, c1, c2⟩ | ⟨c, c1, c2⟩ | ⟨c, c1, c2⟩
    · rw [c1, c2]; exact (e _ _).mpr (Or.inl (h1.2.1 i i0 (by omega)))
    · rw [c1, c2]; exact (e _ _).mpr (Or.inr ⟨rfl, rfl⟩)
    · rw [c1, c2]; exact (e _ _).mpr (Or.inl (h1.2.1 (i - 1) (by omega) (by omega)))
  · show Lx (T' (b + i)) (K' (b + i)) (T' (b + j)) (K' (b + j))
    rcases split i i0 (by omega) with ⟨c, c1, c2⟩ | ⟨c, c1, c2⟩ | ⟨c, c1, c2⟩ <;> rcases split j (by omega) j1 with ⟨q, q1, q2⟩ | ⟨q, q1, q2⟩ | ⟨q, q1, q2⟩ <;> rw [c1, c2, q1, q2]
    · exact h1.2.2.1 i j i0 ij (by omega)
    · exact below i i0 c
    · by_cases z : i = j - 1
      · omega
      · exact h1.2.2.1 i (j - 1) i0 (by omega) (by omega)
    · omega
    · omega
    · exact h6 (j - 1) (by omega) (by omega)
    · omega
    · omega
    · exact h1.2.2.1 (i - 1) (j - 1) (by omega) (by omega) (by omega)
  · rcases (e u d).mp z with z | ⟨z1, z2⟩
    · obtain ⟨i, i0, i1, i2, i3⟩ := h1.2.2.2 u d z
      rcases Int.lt_or_le i a with c | c
      · have w := lo i i0 c
        exact ⟨i, i0, by omega, w.1.trans i2, w.2.trans i3⟩
      · have w := hi i c i1
        exact ⟨i + 1, by omega, by omega, w.1.trans i2, w.2.trans i3⟩
    · exact ⟨a, h2, by omega, vT.trans z1.symm, vK.trans z2.symm⟩
theorem pq_new {K : Int → Prop} {O A B : Int → Int} {M n i : Int} (o : OdR B A n O) (i0 : 0 ≤ i) (i1 : i < n) : ¬ PQ (Q0 K O M) A B i (A i) (B i) := by
  rintro (⟨z1, z2, z3⟩ | ⟨l, l0, l1, l2, l3, l4⟩)
  · exact (o.at i0 i1 rfl).2.1 z2
  · have := o.2.2 l i l0 (by omega) i0 i1 l3
    omega
/-! ===== what is asked of such a row ===== -/
theorem LL.sk {P : Int → Int → Prop} {tm ks : Int → Int} {n u i : Int} (h : LL P tm ks n) (pk : ∀ t k : Int, P t k → 0 ≤ k) (i0 : 0 ≤ i) (i1 : i < n) (c : u ≤ tm i) (pr : ∀ j : Int, 0 ≤ j → j < i → tm j < u) : Sk P u 0 (tm i) (ks i) := by
  have a := h.2.1 i i0 i1
  have b := pk _ _ a
  refine Or.inr ⟨a, by unfold Lx; omega, fun t k z z2 => ?_⟩
  obtain ⟨j, j0, j1, j2, j3⟩ := h.2.2.2 t k z
  rcases Int.lt_trichotomy j i with q | q | q
  · have := pr j j0 q
    unfold Lx at z2
    omega
  · rw [← q, j2, j3]; unfold Lx; omega
  · have w := h.2.2.1 i j i0 q j1
    rw [j2, j3] at w
    unfold Lx at w ⊢
    omega
theorem LL.skNo {P : Int → Int → Prop} {tm ks : Int → Int} {n u : Int} (h : LL P tm ks n) (pr : ∀ j : Int, 0 ≤ j → j < n → tm j < u) : Sk P u 0 2147483647 (-1) := by
  refine Or.inl ⟨rfl, rfl, fun t k z => ?_⟩
  obtain ⟨j, j0, j1, j2, j3⟩ := h.2.2.2 t k z
  have := pr j j0 j1
  unfold Lx
  omega
theorem LL.sa {P : Int → Int → Prop} {tm ks : Int → Int} {n u i : Int} (h : LL P tm ks n) (i0 : 0 ≤ i) (i1 : i < n) (c : tm i < u) (pr : ∀ j : Int, i < j → j < n → u ≤ tm j) : Sa P u (tm i) (ks i) := by
  have a := h.2.1 i i0 i1
  refine Or.inr ⟨a, c, fun t k z z2 => ?_⟩
  obtain ⟨j, j0, j1, j2, j3⟩ := h.2.2.2 t k z
  rcases Int.lt_trichotomy j i with q | q | q
  · have w := h.2.2.1 j i j0 q i1
    rw [j2, j3] at w
    unfold Lx at w ⊢
    omega
  · rw [← q, j2, j3]; unfold Lx; omega
  · have := pr j q j1
    omega
theorem LL.saNo {P : Int → Int → Prop} {tm ks : Int → Int} {n u : Int} (h : LL P tm ks n) (pr : ∀ j : Int, 0 ≤ j → j < n → u ≤ tm j) : Sa P u (-1) (-1) := by
  refine Or.inl ⟨rfl, rfl, fun t k z => ?_⟩
  obtain ⟨j, j0, j1, j2, j3⟩ := h.2.2.2 t k z
  have := pr j j0 j1
  omega
theorem LL.nb {g : Int → Int} {p n u v : Int} {O tm ks : Int → Int} (h : LL (Oc g p O) tm ks n) (kr : ∀ t k : Int, Oc g p O t k → 0 ≤ k ∧ k ≤ 36524) : cn (fun i => u ≤ tm i ∧ tm i ≤ v) 0 n = NB g p O u v := by
  refine cn_img' (f := ks) h.1 (fun i j i0 i1 j0 j1 _ _ e => ?_) (fun i i0 i1 _ => kr _ _ (h.2.1 i i0 i1)) (fun k _ _ => ⟨fun ⟨t, z, z1, z2⟩ => ?_, fun ⟨i, i0, i1, i2, i3⟩ => ?_⟩)
  · have a := h.2.1 i i0 i1
    have b := h.2.1 j j0 j1
    rw [← e] at b
    have et := a.fn b
    rcases Int.lt_trichotomy i j with q | q | q
    · have w := h.2.2.1 i j i0 q j1
      unfold Lx at w
      omega
    · exact q
    · have w := h.2.2.1 j i j0 q i1
      unfold Lx at w
      omega
  · obtain ⟨i, i0, i1, i2, i3⟩ := h.2.2.2 t k z
    exact ⟨i, i0, i1, by show u ≤ tm i ∧ tm i ≤ v; omega, i3⟩
  · have a := h.2.1 i i0 i1
    rw [i3] at a
    exact ⟨tm i, a, i2⟩
/-! ===== next, ahead, count: both answer alike ===== -/
def FD (w T K r : Int) : Prop := (K = -1 ∧ r = -1) ∨ ((w < 0 ∨ 1 < w) ∧ r = -1) ∨ (K ≠ -1 ∧ w = 0 ∧ r = T) ∨ (K ≠ -1 ∧ w = 1 ∧ r = K)
theorem FD.one {w T K r r' : Int} (h : FD w T K r) (g : FD w T K r') : r = r' := by unfold FD at h g; omega
theorem next_eq {fm : Nat → va_E} {mo : Nat} {ad : Nat → Nat} {O : Int → Int} {r r' c c' d d' w w' : Int} (e : (r = -1 ∧ (¬ (0 ≤ c ∧ c < fI fm mo 5) ∨ d < 0 ∨ 52595999 < d ∨ w < 0 ∨ 1 < w)) ∨ ((0 ≤ c ∧ c < fI fm mo 5) ∧ 0 ≤ d ∧ d ≤ 52595999 ∧ ∃ T K : Int, Sk (Oc (aI fm (ad 4)) (44 * c) O) d 0 T K ∧ FD w T K r)) (q : (r' = -1 ∧ (¬ (0 ≤ c' ∧ c' < fI fm mo 5) ∨ d' < 0 ∨ 52595999 < d' ∨ w' < 0 ∨ 1 < w')) ∨ ((0 ≤ c' ∧ c' < fI fm mo 5) ∧ 0 ≤ d' ∧ d' ≤ 52595999 ∧ ∃ T K : Int, Sk (Oc (aI fm (ad 4)) (44 * c') O) d' 0 T K ∧ FD w' T K r')) (ec : c = c') (ed : d = d') (ew : w = w') : r = r' := by
  subst ec
  subst ed
  subst ew
  rcases e with ⟨e1, e2⟩ | ⟨e1, e2, e3, T, K, e4, e5⟩ <;> rcases q with ⟨q1, q2⟩ | ⟨q1, q2, q3, T', K', q4, q5⟩
  · omega
  · unfold FD at q5; omega
  · unfold FD at e5; omega
  · obtain ⟨a, b⟩ := e4.one q4
    subst a
    subst b
    exact e5.one q5
theorem ahead_eq {fm : Nat → va_E} {mo : Nat} {ad : Nat → Nat} {O : Int → Int} {r r' c c' d d' w w' : Int} (e : (r = -1 ∧ (¬ (0 ≤ c ∧ c < fI fm mo 5) ∨ d < 0 ∨ 52595999 < d ∨ w < 0 ∨ 1 < w)) ∨ ((0 ≤ c ∧ c < fI fm mo 5) ∧ 0 ≤ d ∧ d ≤ 52595999 ∧ ∃ T K : Int, Sa (Oc (aI fm (ad 4)) (44 * c) O) d T K ∧ FD w T K r)) (q : (r' = -1 ∧ (¬ (0 ≤ c' ∧ c' < fI fm mo 5) ∨ d' < 0 ∨ 52595999 < d' ∨ w' < 0 ∨ 1 < w')) ∨ ((0 ≤ c' ∧ c' < fI fm mo 5) ∧ 0 ≤ d' ∧ d' ≤ 52595999 ∧ ∃ T K : Int, Sa (Oc (aI fm (ad 4)) (44 * c') O) d' T K ∧ FD w' T K r')) (ec : c = c') (ed : d = d') (ew : w = w') : r = r' := by
  subst ec
  subst ed
  subst ew
  rcases e with ⟨e1, e2⟩ | ⟨e1, e2, e3, T, K, e4, e5⟩ <;> rcases q with ⟨q1, q2⟩ | ⟨q1, q2, q3, T', K', q4, q5⟩
  · omega
  · unfold FD at q5; omega
  · unfold FD at e5; omega
  · obtain ⟨a, b⟩ := e4.one q4
    subst a
    subst b
    exact e5.one q5
theorem count_eq {fm : Nat → va_E} {mo : Nat} {ad : Nat → Nat} {O : Int → Int} {r r' c c' d d' w w' : Int} (e : (r = -1 ∧ (¬ (0 ≤ c ∧ c < fI fm mo 5) ∨ d < 0 ∨ 36524 < d ∨ w < 0 ∨ 36524 < w ∨ w < d)) ∨ ((0 ≤ c ∧ c < fI fm mo 5) ∧ 0 ≤ d ∧ d ≤ w ∧ w ≤ 36524 ∧ r = NB (aI fm (ad 4)) (44 * c) O (1440 * d) (1440 * w + 1439))) (q : (r' = -1 ∧ (¬ (0 ≤ c' ∧ c' < fI fm mo 5) ∨ d' < 0 ∨ 36524 < d' ∨ w' < 0 ∨ 36524 < w' ∨ w' < d')) ∨ ((0 ≤ c' ∧ c' < fI fm mo 5) ∧ 0 ≤ d' ∧ d' ≤ w' ∧ w' ≤ 36524 ∧ r' = NB (aI fm (ad 4)) (44 * c') O (1440 * d') (1440 * w' + 1439))) (ec : c = c') (ed : d = d') (ew : w = w') : r = r' := by
  subst ec
  subst ed
  subst ew
  rcases e with ⟨e1, e2⟩ | ⟨e1, e2, e3, e4, e5⟩ <;> rcases q with ⟨q1, q2⟩ | ⟨q1, q2, q3, q4, q5⟩
  · omega
  · omega
  · omega
  · rw [e5, q5]
