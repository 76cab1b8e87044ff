/-! ===== what the class's cells keep to ===== -/
def fcond (ci k : Nat) (x : Int) : Prop := match ci, k with
  | 0, 10 => 0 ≤ x ∧ x ≤ 16
  | 1, 3 => 1 ≤ x
  | 2, 3 => 1 ≤ x ∧ x ≤ 12000
  | 2, 4 => 0 ≤ x ∧ x ≤ 100000000
  | 4, 1 => 0 ≤ x ∧ x ≤ 168
  | 4, 3 => 0 ≤ x ∧ x ≤ 168
  | 4, 4 => 0 ≤ x ∧ x ≤ 168
  | 4, 7 => -1 ≤ x ∧ x ≤ 999
  | 5, 1 => 0 ≤ x ∧ x ≤ 12
  | 6, 3 => 1 ≤ x
  | 7, 1 => 0 ≤ x ∧ x ≤ 168
  | _, _ => True
def Rl (f : Nat → va_E) (r : Nat) : Prop := Ob f r 1 ∨ Ob f r 2 ∨ Ob f r 3 ∨ Ob f r 6
def rcond (cy : Cy) (M : List Nat) (f : Nat → va_E) (ci k : Nat) (o : Option Nat) : Prop := match ci, k with
  | 0, 3 => ∃ r, o = some r ∧ r ∈ M ∧ Rl f r
  | 0, 11 => ∃ r, o = some r ∧ r ∈ M ∧ ArI f r cy.2.1 16
  | 0, 12 => ∃ r, o = some r ∧ r ∈ M ∧ ArI f r cy.2.1 16
  | 4, 0 => ∃ r, o = some r ∧ r ∈ M ∧ ArI f r cy.1 168
  | 5, 0 => ∃ r, o = some r ∧ r ∈ M ∧ ArR f r cy.2.2.2.1 12
  | 7, 0 => ∃ r, o = some r ∧ r ∈ M ∧ ArI f r cy.1 168
  | 7, 2 => ∃ r, o = some r ∧ r ∈ M ∧ Ob f r 5
  | 7, 3 => ∃ r, o = some r ∧ r ∈ M ∧ ArR f r cy.2.2.2.2 2
  | _, _ => True
def GI (cy : Cy) (M : List Nat) (f : Nat → va_E) : Prop :=
  (∀ a ∈ M, ∀ ci k : Nat, Ob f a ci → fcond ci k (fI f a k)) ∧
  (∀ a ∈ M, ∀ ci k : Nat, Ob f a ci → rcond cy M f ci k (fR f a k)) ∧
  (∀ a ∈ M, ∀ j : Int, ArR f a cy.2.2.2.1 12 → 0 ≤ j → j < 12 → ∃ b, aR f a j = some b ∧ b ∈ M ∧ Ob f b 0) ∧
  (∀ a ∈ M, ∀ j : Int, ArR f a cy.2.2.2.2 2 → 0 ≤ j → j < 2 → aR f a j = none ∨ ∃ b, aR f a j = some b ∧ b ∈ M ∧ Ob f b 5)
/-- shapes stay; a BookIndex's own fields and its images stay -/
def Sh (f f1 : Nat → va_E) : Prop := (∀ a ci : Nat, Ob f a ci → Ob f1 a ci) ∧ (∀ (a : Nat) (cA : ClassId) (n : Nat), ArI f a cA n → ArI f1 a cA n) ∧ (∀ (a : Nat) (cA : ClassId) (n : Nat), ArR f a cA n → ArR f1 a cA n)
def Ex (cy : Cy) (f f1 : Nat → va_E) : Prop := Sh f f1 ∧ (∀ a k : Nat, Ob f a 7 → fV f1 a k = fV f a k) ∧ (∀ (a : Nat) (j : Int), ArR f a cy.2.2.2.2 2 → aR f1 a j = aR f a j)
theorem Sh.refl (f : Nat → va_E) : Sh f f := ⟨fun _ _ h => h, fun _ _ _ h => h, fun _ _ _ h => h⟩
theorem Sh.trans {f g h : Nat → va_E} (a : Sh f g) (b : Sh g h) : Sh f h := ⟨fun x y z => b.1 x y (a.1 x y z), fun x y z w => b.2.1 x y z (a.2.1 x y z w), fun x y z w => b.2.2 x y z (a.2.2 x y z w)⟩
theorem Ex.refl (cy : Cy) (f : Nat → va_E) : Ex cy f f := ⟨Sh.refl f, fun _ _ _ => rfl, fun _ _ _ => rfl⟩
theorem Ex.trans {cy : Cy} {f g h : Nat → va_E} (a : Ex cy f g) (b : Ex cy g h) : Ex cy f h := ⟨a.1.trans b.1, fun x k o => (b.2.1 x k (a.1.1 x 7 o)).trans (a.2.1 x k o), fun x j o => (b.2.2 x j (a.1.2.2 x _ _ o)).trans (a.2.2 x j o)⟩
theorem Rl.mono {f f1 : Nat → va_E} (s : Sh f f1) {r : Nat} (h : Rl f r) : Rl f1 r := by
  rcases h with h | h | h | h
  · exact Or.inl (s.1 _ _ h)
  · exact Or.inr (Or.inl (s.1 _ _ h))
  · exact Or.inr (Or.inr (Or.inl (s.1 _ _ h)))
  · exact Or.inr (Or.inr (Or.inr (s.1 _ _ h)))
theorem rcond.mono {cy : Cy} {M : List Nat} {f f1 : Nat → va_E} (s : Sh f f1) {ci k : Nat} {o : Option Nat} (h : rcond cy M f ci k o) : rcond cy M f1 ci k o := by
  unfold rcond at h ⊢
  split at h
  · obtain ⟨r, h1, h2, h3⟩ := h; exact ⟨r, h1, h2, h3.mono s⟩
  · obtain ⟨r, h1, h2, h3⟩ := h; exact ⟨r, h1, h2, s.2.1 _ _ _ h3⟩
  · obtain ⟨r, h1, h2, h3⟩ := h; exact ⟨r, h1, h2, s.2.1 _ _ _ h3⟩
  · obtain ⟨r, h1, h2, h3⟩ := h; exact ⟨r, h1, h2, s.2.1 _ _ _ h3⟩
  · obtain ⟨r, h1, h2, h3⟩ := h; exact ⟨r, h1, h2, s.2.2 _ _ _ h3⟩
  · obtain ⟨r, h1, h2, h3⟩ := h; exact ⟨r, h1, h2, s.2.1 _ _ _ h3⟩
  · obtain ⟨r, h1, h2, h3⟩ := h; exact ⟨r, h1, h2, s.1 _ _ h3⟩
  · obtain ⟨r, h1, h2, h3⟩ := h; exact ⟨r, h1, h2, s.2.2 _ _ _ h3⟩
  · trivial
theorem Ob.uniq {f : Nat → va_E} {a ci cj : Nat} (h : Ob f a ci) (g : Ob f a cj) : ci = cj := by
  obtain ⟨fs, h1, -⟩ := h
  obtain ⟨gs, g1, -⟩ := g
  rw [h1] at g1
  cases g1
  rfl
theorem Ob.notI {f : Nat → va_E} {a ci n : Nat} {cA : ClassId} (h : Ob f a ci) : ¬ ArI f a cA n := by
  rintro ⟨g, hg⟩
  obtain ⟨fs, h1, -⟩ := h
  rw [h1] at hg
  cases hg
theorem Ob.notR {f : Nat → va_E} {a ci n : Nat} {cA : ClassId} (h : Ob f a ci) : ¬ ArR f a cA n := by
  rintro ⟨g, hg⟩
  obtain ⟨fs, h1, -⟩ := h
  rw [h1] at hg
  cases hg
theorem Ob_pU' {f : Nat → va_E} {a b k ci cj ty : Nat} {v : Value} (h : Ob f a ci) (hk : (sg ci)[k]? = some ty) (hv : tyv v = ty) (hb : Ob (pU f a k v) b cj) : Ob f b cj := by
  by_cases e : b = a
  · subst e
    have := (Ob_pU h hk hv h).uniq hb
    exact this ▸ h
  · obtain ⟨fs, h1, h2⟩ := hb
    exact ⟨fs, by rw [pU_ne e] at h1; exact h1, h2⟩
theorem ArR_pU' {f : Nat → va_E} {a b k n ci : Nat} {cA : ClassId} {v : Value} (h : Ob f a ci) (hb : ArR (pU f a k v) b cA n) : ArR f b cA n := by
  by_cases e : b = a
  · subst e
    obtain ⟨fs, h1, -⟩ := h
    obtain ⟨g, hg⟩ := hb
    rw [pU_eq h1, va_up_self] at hg
    cases hg
  · obtain ⟨g, hg⟩ := hb
    exact ⟨g, by rw [pU_ne e] at hg; exact hg⟩
theorem Sh_pU {f : Nat → va_E} {a k ci ty : Nat} {v : Value} (h : Ob f a ci) (hk : (sg ci)[k]? = some ty) (hv : tyv v = ty) : Sh f (pU f a k v) :=
  ⟨fun _ _ o => Ob_pU h hk hv o, fun _ _ _ o => ArI_pU o, fun _ _ _ o => ArR_pU o⟩
theorem Ex_pU {cy : Cy} {f : Nat → va_E} {a k ci ty : Nat} {v : Value} (h : Ob f a ci) (hk : (sg ci)[k]? = some ty) (hv : tyv v = ty) (h7 : ci ≠ 7) : Ex cy f (pU f a k v) :=
  ⟨Sh_pU h hk hv, fun x j o => fV_pU (Or.inl (fun e => h7 (by rw [e] at o; exact h.uniq o))), fun _ _ _ => aR_pU h⟩
theorem Ob.fRn {f : Nat → va_E} {a ci k : Nat} (h : Ob f a ci) (hk : (sg ci)[k]? = some 0) : fR f a k = none := by
  obtain ⟨fs, v, h1, h2, h3⟩ := h.int hk
  unfold fR
  rw [fV_eq h1, h2]
theorem Ob.fIn {f : Nat → va_E} {a ci k : Nat} (h : Ob f a ci) (hk : (sg ci)[k]? = some 2) : fI f a k = 0 := by
  obtain ⟨fs, v, h1, h2, h3, h4⟩ := h.val hk
  unfold fI
  rw [fV_eq h1, h3]
  rcases tyv_ref h4 with rfl | ⟨r, rfl⟩ <;> rfl
/-- an int field is put -/
theorem GI.putI {cy : Cy} {M : List Nat} {f : Nat → va_E} {a k ci : Nat} {x : Int} (g : GI cy M f) (h : Ob f a ci) (hk : (sg ci)[k]? = some 0) (rx : rg x) (hx : fcond ci k x) : GI cy M (pU f a k (.int (iI x))) := by
  have s : Sh f (pU f a k (.int (iI x))) := Sh_pU h hk rfl
  refine ⟨fun b hb cj j o => ?_, fun b hb cj j o => ?_, fun b hb j o h0 h1 => ?_, fun b hb j o h0 h1 => ?_⟩
  · have o' := Ob_pU' h hk rfl o
    by_cases e : b = a ∧ j = k
    · obtain ⟨rfl, rfl⟩ := e
      rw [fI_pU_self h hk rx]
      rw [← h.uniq o']
      exact hx
    · rw [fI_pU (by rcases Decidable.not_and_iff_or_not.mp e with q | q; exact Or.inl q; exact Or.inr q)]
      exact g.1 b hb cj j o'
  · have o' := Ob_pU' h hk rfl o
    have : fR (pU f a k (.int (iI x))) b j = fR f b j := by
      by_cases e : b = a ∧ j = k
      · obtain ⟨rfl, rfl⟩ := e
        rw [h.fRn hk]
        exact (s.1 _ _ h).fRn hk
      · exact fR_pU (by rcases Decidable.not_and_iff_or_not.mp e with q | q; exact Or.inl q; exact Or.inr q)
    rw [this]
    exact (g.2.1 b hb cj j o').mono s
  · obtain ⟨c, h2, h3, h4⟩ := g.2.2.1 b hb j (ArR_pU' h o) h0 h1
    exact ⟨c, by rw [aR_pU h]; exact h2, h3, s.1 _ _ h4⟩
  · rw [aR_pU h]
    rcases g.2.2.2 b hb j (ArR_pU' h o) h0 h1 with h2 | ⟨c, h2, h3, h4⟩
    · exact Or.inl h2
    · exact Or.inr ⟨c, h2, h3, s.1 _ _ h4⟩
/-- a reference is put -/
theorem GI.putR {cy : Cy} {M : List Nat} {f : Nat → va_E} {a k ci r : Nat} (g : GI cy M f) (h : Ob f a ci) (hk : (sg ci)[k]? = some 2) (hx : rcond cy M f ci k (some r)) : GI cy M (pU f a k (.ref r)) := by
  have s : Sh f (pU f a k (.ref r)) := Sh_pU h hk rfl
  refine ⟨fun b hb cj j o => ?_, fun b hb cj j o => ?_, fun b hb j o h0 h1 => ?_, fun b hb j o h0 h1 => ?_⟩
  · have o' := Ob_pU' h hk rfl o
    have : fI (pU f a k (.ref r)) b j = fI f b j := by
      by_cases e : b = a ∧ j = k
      · obtain ⟨rfl, rfl⟩ := e
        rw [h.fIn hk]
        exact (s.1 _ _ h).fIn hk
      · exact fI_pU (by rcases Decidable.not_and_iff_or_not.mp e with q | q; exact Or.inl q; exact Or.inr q)
    rw [this]
    exact g.1 b hb cj j o'
  · have o' := Ob_pU' h hk rfl o
    by_cases e : b = a ∧ j = k
    · obtain ⟨rfl, rfl⟩ := e
      rw [fR_pU_self h hk]
      rw [← h.uniq o']
      exact hx.mono s
    · rw [fR_pU (by rcases Decidable.not_and_iff_or_not.mp e with q | q; exact Or.inl q; exact Or.inr q)]
      exact (g.2.1 b hb cj j o').mono s
  · obtain ⟨c, h2, h3, h4⟩ := g.2.2.1 b hb j (ArR_pU' h o) h0 h1
    exact ⟨c, by rw [aR_pU h]; exact h2, h3, s.1 _ _ h4⟩
  · rw [aR_pU h]
    rcases g.2.2.2 b hb j (ArR_pU' h o) h0 h1 with h2 | ⟨c, h2, h3, h4⟩
    · exact Or.inl h2
    · exact Or.inr ⟨c, h2, h3, s.1 _ _ h4⟩
theorem Sh_aU {f : Nat → va_E} {a n : Nat} {cA : ClassId} {j : Int} {v : Int32} (h : ArI f a cA n) : Sh f (aU f a j v) :=
  ⟨fun _ _ o => Ob_aU h o, fun _ _ _ o => ArI_aU h o, fun _ _ _ o => ArR_aU h o⟩
theorem aR_aU {f : Nat → va_E} {a b n : Nat} {cA : ClassId} {j i : Int} {v : Int32} (h : ArI f a cA n) : aR (aU f a j v) b i = aR f b i := by
  by_cases e : b = a
  · subst e
    obtain ⟨g, hg⟩ := h
    unfold aR
    rw [aU_eq hg, va_up_self, hg]
  · unfold aR; rw [aU_ne e]
theorem Ex_aU {cy : Cy} {f : Nat → va_E} {a n : Nat} {cA : ClassId} {j : Int} {v : Int32} (h : ArI f a cA n) : Ex cy f (aU f a j v) :=
  ⟨Sh_aU h, fun _ _ _ => fV_aU h, fun _ _ _ => aR_aU h⟩
theorem Ob_aU' {f : Nat → va_E} {a b ci n : Nat} {cA : ClassId} {j : Int} {v : Int32} (h : ArI f a cA n) (hb : Ob (aU f a j v) b ci) : Ob f b ci := by
  obtain ⟨fs, h1, h2⟩ := hb
  by_cases e : b = a
  · subst e; obtain ⟨g, hg⟩ := h; rw [aU_eq hg, va_up_self] at h1; cases h1
  · exact ⟨fs, by rw [aU_ne e] at h1; exact h1, h2⟩
theorem ArR_aU' {f : Nat → va_E} {a b n n' : Nat} {cA cB : ClassId} {j : Int} {v : Int32} (h : ArI f a cA n) (hb : ArR (aU f a j v) b cB n') : ArR f b cB n' := by
  obtain ⟨g', h1⟩ := hb
  by_cases e : b = a
  · subst e; obtain ⟨g, hg⟩ := h; rw [aU_eq hg, va_up_self] at h1; cases h1
  · exact ⟨g', by rw [aU_ne e] at h1; exact h1⟩
/-- an element of a row of ints is put -/
theorem GI.putA {cy : Cy} {M : List Nat} {f : Nat → va_E} {a n : Nat} {cA : ClassId} {j : Int} {v : Int32} (g : GI cy M f) (h : ArI f a cA n) : GI cy M (aU f a j v) := by
  have s : Sh f (aU f a j v) := Sh_aU h
  refine ⟨fun b hb cj i o => ?_, fun b hb cj i o => ?_, fun b hb i o h0 h1 => ?_, fun b hb i o h0 h1 => ?_⟩
  · rw [fI_aU h]; exact g.1 b hb cj i (Ob_aU' h o)
  · rw [fR_aU h]; exact (g.2.1 b hb cj i (Ob_aU' h o)).mono s
  · obtain ⟨c, h2, h3, h4⟩ := g.2.2.1 b hb i (ArR_aU' h o) h0 h1
    exact ⟨c, by rw [aR_aU h]; exact h2, h3, s.1 _ _ h4⟩
  · rw [aR_aU h]
    rcases g.2.2.2 b hb i (ArR_aU' h o) h0 h1 with h2 | ⟨c, h2, h3, h4⟩
    · exact Or.inl h2
    · exact Or.inr ⟨c, h2, h3, s.1 _ _ h4⟩
