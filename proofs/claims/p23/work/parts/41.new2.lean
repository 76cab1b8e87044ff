/-! ===== making of cells: the good ones grow ===== -/
theorem Rl.al {cy : Cy} {L : List Nat} {f g : Nat → va_E} (h : Al cy L f g) {r : Nat} (m : r ∈ L) (o : Rl f r) : Rl g r := by
  rcases o with o | o | o | o
  · exact Or.inl (h.1 _ m _ o)
  · exact Or.inr (Or.inl (h.1 _ m _ o))
  · exact Or.inr (Or.inr (Or.inl (h.1 _ m _ o)))
  · exact Or.inr (Or.inr (Or.inr (h.1 _ m _ o)))
/-- the good cells are as they were -/
theorem GI.off {cy : Cy} {M : List Nat} {f g : Nat → va_E} (h : GI cy M f) (e : ∀ a ∈ M, g a = f a) : GI cy M g := by
  have o1 : ∀ a ∈ M, ∀ ci, Ob f a ci → Ob g a ci := fun a m ci o => by obtain ⟨fs, h1, h2⟩ := o; exact ⟨fs, by rw [e a m]; exact h1, h2⟩
  have o2 : ∀ a ∈ M, ∀ ci, Ob g a ci → Ob f a ci := fun a m ci o => by obtain ⟨fs, h1, h2⟩ := o; rw [e a m] at h1; exact ⟨fs, h1, h2⟩
  have i1 : ∀ a ∈ M, ∀ cA n, ArI f a cA n → ArI g a cA n := fun a m cA n o => by obtain ⟨fs, h1⟩ := o; exact ⟨fs, by rw [e a m]; exact h1⟩
  have r1 : ∀ a ∈ M, ∀ cA n, ArR f a cA n → ArR g a cA n := fun a m cA n o => by obtain ⟨fs, h1⟩ := o; exact ⟨fs, by rw [e a m]; exact h1⟩
  have r2 : ∀ a ∈ M, ∀ cA n, ArR g a cA n → ArR f a cA n := fun a m cA n o => by obtain ⟨fs, h1⟩ := o; rw [e a m] at h1; exact ⟨fs, h1⟩
  have vI : ∀ a ∈ M, ∀ k, fI g a k = fI f a k := fun a m k => by unfold fI fV; rw [e a m]
  have vR : ∀ a ∈ M, ∀ k, fR g a k = fR f a k := fun a m k => by unfold fR fV; rw [e a m]
  have vA : ∀ a ∈ M, ∀ j, aR g a j = aR f a j := fun a m j => by unfold aR; rw [e a m]
  refine ⟨fun a m ci k o => ?_, fun a m ci k o => ?_, fun a m j o h0 h1 => ?_, fun a m j o h0 h1 => ?_⟩
  · rw [vI a m]; exact h.1 a m ci k (o2 a m ci o)
  · rw [vR a m]
    have := h.2.1 a m ci k (o2 a m ci o)
    unfold rcond at this ⊢
    split at this
    · obtain ⟨r, h1, h2, h3⟩ := this
      refine ⟨r, h1, h2, ?_⟩
      rcases h3 with h3 | h3 | h3 | h3
      · exact Or.inl (o1 _ h2 _ h3)
      · exact Or.inr (Or.inl (o1 _ h2 _ h3))
      · exact Or.inr (Or.inr (Or.inl (o1 _ h2 _ h3)))
      · exact Or.inr (Or.inr (Or.inr (o1 _ h2 _ h3)))
    · obtain ⟨r, h1, h2, h3⟩ := this; exact ⟨r, h1, h2, i1 _ h2 _ _ h3⟩
    · obtain ⟨r, h1, h2, h3⟩ := this; exact ⟨r, h1, h2, i1 _ h2 _ _ h3⟩
    · obtain ⟨r, h1, h2, h3⟩ := this; exact ⟨r, h1, h2, i1 _ h2 _ _ h3⟩
    · obtain ⟨r, h1, h2, h3⟩ := this; exact ⟨r, h1, h2, r1 _ h2 _ _ h3⟩
    · obtain ⟨r, h1, h2, h3⟩ := this; exact ⟨r, h1, h2, i1 _ h2 _ _ h3⟩
    · obtain ⟨r, h1, h2, h3⟩ := this; exact ⟨r, h1, h2, o1 _ h2 _ h3⟩
    · obtain ⟨r, h1, h2, h3⟩ := this; exact ⟨r, h1, h2, r1 _ h2 _ _ h3⟩
    · trivial
  · obtain ⟨b, h2, h3, h4⟩ := h.2.2.1 a m j (r2 a m _ _ o) h0 h1
    exact ⟨b, by rw [vA a m]; exact h2, h3, o1 _ h3 _ h4⟩
  · rw [vA a m]
    rcases h.2.2.2 a m j (r2 a m _ _ o) h0 h1 with h2 | ⟨b, h2, h3, h4⟩
    · exact Or.inl h2
    · exact Or.inr ⟨b, h2, h3, o1 _ h3 _ h4⟩
theorem ArI.notOb {f : Nat → va_E} {a ci n : Nat} {cA : ClassId} (h : ArI f a cA n) : ¬ Ob f a ci := fun o => o.notI h
theorem ArI.notR {f : Nat → va_E} {a n n' : Nat} {cA cB : ClassId} (h : ArI f a cA n) : ¬ ArR f a cB n' := by
  rintro ⟨g, hg⟩
  obtain ⟨g', hg'⟩ := h
  rw [hg'] at hg
  cases hg
theorem GI.addOb {cy : Cy} {M : List Nat} {f : Nat → va_E} {q ci : Nat} (g : GI cy M f) (o : Ob f q ci) (hf : ∀ k : Nat, fcond ci k (fI f q k)) (hr : ∀ k : Nat, rcond cy (M ++ [q]) f ci k (fR f q k)) : GI cy (M ++ [q]) f :=
  g.add (fun cj k o' => by rw [← o.uniq o']; exact hf k) (fun cj k o' => by rw [← o.uniq o']; exact hr k) (fun _ o' => absurd o' o.notR) (fun _ o' => absurd o' o.notR)
theorem GI.addI {cy : Cy} {M : List Nat} {f : Nat → va_E} {q n : Nat} {cA : ClassId} (g : GI cy M f) (o : ArI f q cA n) : GI cy (M ++ [q]) f :=
  g.add (fun _ _ o' => absurd o' o.notOb) (fun _ _ o' => absurd o' o.notOb) (fun _ o' => absurd o' o.notR) (fun _ o' => absurd o' o.notR)
theorem GI.newI {cy : Cy} {M : List Nat} {f : Nat → va_E} {q n : Nat} {cA : ClassId} {v : Nat → Int32} (g : GI cy M f) (h : q ∉ M) : GI cy (M ++ [q]) (va_up f q (.inl (cA, n, .inl v))) :=
  (g.push h).addI ⟨v, va_up_self _ _ _⟩
theorem fcond_0 {x : Nat → Int} (h : 0 ≤ x 10 ∧ x 10 ≤ 16) (k : Nat) : fcond 0 k (x k) := by
  by_cases e : k = 10
  · subst e; exact h
  · unfold fcond; split <;> simp_all
theorem fcond_1 {x : Nat → Int} (h : 1 ≤ x 3) (k : Nat) : fcond 1 k (x k) := by
  by_cases e : k = 3
  · subst e; exact h
  · unfold fcond; split <;> simp_all
theorem fcond_6 {x : Nat → Int} (h : 1 ≤ x 3) (k : Nat) : fcond 6 k (x k) := by
  by_cases e : k = 3
  · subst e; exact h
  · unfold fcond; split <;> simp_all
theorem fcond_3 {x : Nat → Int} (k : Nat) : fcond 3 k (x k) := by
  unfold fcond; split <;> simp_all
theorem fcond_2 {x : Nat → Int} (h : 1 ≤ x 3 ∧ x 3 ≤ 12000 ∧ 0 ≤ x 4 ∧ x 4 ≤ 100000000) (k : Nat) : fcond 2 k (x k) := by
  by_cases e : k = 3
  · subst e; exact ⟨h.1, h.2.1⟩
  · by_cases e4 : k = 4
    · subst e4; exact h.2.2
    · unfold fcond; split <;> simp_all
theorem fcond_4 {x : Nat → Int} (h : (0 ≤ x 1 ∧ x 1 ≤ 168) ∧ (0 ≤ x 3 ∧ x 3 ≤ 168) ∧ (0 ≤ x 4 ∧ x 4 ≤ 168) ∧ (-1 ≤ x 7 ∧ x 7 ≤ 999)) (k : Nat) : fcond 4 k (x k) := by
  by_cases e : k = 1
  · subst e; exact h.1
  · by_cases e3 : k = 3
    · subst e3; exact h.2.1
    · by_cases e4 : k = 4
      · subst e4; exact h.2.2.1
      · by_cases e7 : k = 7
        · subst e7; exact h.2.2.2
        · unfold fcond; split <;> simp_all
theorem fcond_5 {x : Nat → Int} (h : 0 ≤ x 1 ∧ x 1 ≤ 12) (k : Nat) : fcond 5 k (x k) := by
  by_cases e : k = 1
  · subst e; exact h
  · unfold fcond; split <;> simp_all
theorem fcond_7 {x : Nat → Int} (h : 0 ≤ x 1 ∧ x 1 ≤ 168) (k : Nat) : fcond 7 k (x k) := by
  by_cases e : k = 1
  · subst e; exact h
  · unfold fcond; split <;> simp_all
section RCN
variable {cy : Cy} {M : List Nat} {f : Nat → va_E} {x : Nat → Option Nat}
theorem rcond_1 (k : Nat) : rcond cy M f 1 k (x k) := by unfold rcond; split <;> simp_all
theorem rcond_2 (k : Nat) : rcond cy M f 2 k (x k) := by unfold rcond; split <;> simp_all
theorem rcond_3 (k : Nat) : rcond cy M f 3 k (x k) := by unfold rcond; split <;> simp_all
theorem rcond_6 (k : Nat) : rcond cy M f 6 k (x k) := by unfold rcond; split <;> simp_all
theorem rcond_4 {r : Nat} (h : x 0 = some r ∧ r ∈ M ∧ ArI f r cy.1 168) (k : Nat) : rcond cy M f 4 k (x k) := by
  by_cases e : k = 0
  · subst e; exact ⟨r, h⟩
  · unfold rcond; split <;> first | trivial | (rename_i h9; simp_all)
theorem rcond_5 {r : Nat} (h : x 0 = some r ∧ r ∈ M ∧ ArR f r cy.2.2.2.1 12) (k : Nat) : rcond cy M f 5 k (x k) := by
  by_cases e : k = 0
  · subst e; exact ⟨r, h⟩
  · unfold rcond; split <;> first | trivial | (rename_i h9; simp_all)
theorem rcond_0 {r1 r2 r3 : Nat} (h1 : x 3 = some r1 ∧ r1 ∈ M ∧ Rl f r1) (h2 : x 11 = some r2 ∧ r2 ∈ M ∧ ArI f r2 cy.2.1 16) (h3 : x 12 = some r3 ∧ r3 ∈ M ∧ ArI f r3 cy.2.1 16) (k : Nat) : rcond cy M f 0 k (x k) := by
  by_cases e : k = 3
  · subst e; exact ⟨r1, h1⟩
  · by_cases e2 : k = 11
    · subst e2; exact ⟨r2, h2⟩
    · by_cases e3 : k = 12
      · subst e3; exact ⟨r3, h3⟩
      · unfold rcond; split <;> first | trivial | (rename_i h9; simp_all)
theorem rcond_7 {r1 r2 r3 : Nat} (h1 : x 0 = some r1 ∧ r1 ∈ M ∧ ArI f r1 cy.1 168) (h2 : x 2 = some r2 ∧ r2 ∈ M ∧ Ob f r2 5) (h3 : x 3 = some r3 ∧ r3 ∈ M ∧ ArR f r3 cy.2.2.2.2 2) (k : Nat) : rcond cy M f 7 k (x k) := by
  by_cases e : k = 0
  · subst e; exact ⟨r1, h1⟩
  · by_cases e2 : k = 2
    · subst e2; exact ⟨r2, h2⟩
    · by_cases e3 : k = 3
      · subst e3; exact ⟨r3, h3⟩
      · unfold rcond; split <;> first | trivial | (rename_i h9; simp_all)
end RCN
/-- what a constructor that makes cells leaves: M1 the good cells, a0 among them; old cells but a0 are as they were -/
def PA (cy : Cy) (M L0 : List Nat) (f0 : Nat → va_E) (a0 ci : Nat) (L1 : List Nat) (f1 : Nat → va_E) : Prop := ∃ M1 : List Nat, (∀ x ∈ M, x ∈ M1) ∧ (∀ x ∈ M1, x ∈ L1) ∧ (∀ x ∈ M1, x ∈ M ∨ x = a0 ∨ x ∉ L0) ∧ a0 ∈ M1 ∧ (∀ x ∈ L0, x ∈ L1) ∧ (∀ x ∈ L1, x ∈ L0 ∨ x ∈ M1) ∧ GI cy M1 f1 ∧ (∀ x ∈ L0, x ≠ a0 → f1 x = f0 x) ∧ Ob f1 a0 ci
theorem fI_of {f g : Nat → va_E} {a k : Nat} (e : g a = f a) : fI g a k = fI f a k := by unfold fI fV; rw [e]
theorem fR_of {f g : Nat → va_E} {a k : Nat} (e : g a = f a) : fR g a k = fR f a k := by unfold fR fV; rw [e]
theorem aR_of {f g : Nat → va_E} {a : Nat} {j : Int} (e : g a = f a) : aR g a j = aR f a j := by unfold aR; rw [e]
theorem Ob_of {f g : Nat → va_E} {a ci : Nat} (e : g a = f a) (o : Ob f a ci) : Ob g a ci := by obtain ⟨fs, h1, h2⟩ := o; exact ⟨fs, by rw [e]; exact h1, h2⟩
theorem ArI_of {f g : Nat → va_E} {a n : Nat} {cA : ClassId} (e : g a = f a) (o : ArI f a cA n) : ArI g a cA n := by obtain ⟨v, h⟩ := o; exact ⟨v, by rw [e]; exact h⟩
theorem ArR_of {f g : Nat → va_E} {a n : Nat} {cA : ClassId} (e : g a = f a) (o : ArR f a cA n) : ArR g a cA n := by obtain ⟨v, h⟩ := o; exact ⟨v, by rw [e]; exact h⟩
theorem Rl_of {f g : Nat → va_E} {a : Nat} (e : g a = f a) (o : Rl f a) : Rl g a := by
  rcases o with o | o | o | o
  · exact Or.inl (Ob_of e o)
  · exact Or.inr (Or.inl (Ob_of e o))
  · exact Or.inr (Or.inr (Or.inl (Ob_of e o)))
  · exact Or.inr (Or.inr (Or.inr (Ob_of e o)))
theorem GI.same {cy : Cy} {M M' : List Nat} {f : Nat → va_E} (g : GI cy M f) (h1 : ∀ x ∈ M, x ∈ M') (h2 : ∀ x ∈ M', x ∈ M) : GI cy M' f := by
  refine ⟨fun a m ci k o => g.1 a (h2 a m) ci k o, fun a m ci k o => (g.2.1 a (h2 a m) ci k o).mem h1, fun a m j o h0 h3 => ?_, fun a m j o h0 h3 => ?_⟩
  · obtain ⟨b, q1, q2, q3⟩ := g.2.2.1 a (h2 a m) j o h0 h3; exact ⟨b, q1, h1 _ q2, q3⟩
  · rcases g.2.2.2 a (h2 a m) j o h0 h3 with q | ⟨b, q1, q2, q3⟩
    · exact Or.inl q
    · exact Or.inr ⟨b, q1, h1 _ q2, q3⟩
theorem fI_up {f : Nat → va_E} {q ci k : Nat} {fs : List Value} {v : Int32} (h : fs[k]? = some (.int v)) : fI (va_up f q (.inr (ci, fs))) q k = v.toInt := by
  unfold fI fV
  rw [va_up_self]
  simp only [h]
theorem aR_none (f : Nat → va_E) (q : Nat) (cA : ClassId) (n : Nat) (j : Int) : aR (va_up f q (.inl (cA, n, .inr (.inr (.inr (.inr (fun _ => none))))))) q j = none := by
  unfold aR
  rw [va_up_self]
theorem fR_rU {f : Nat → va_E} {a b k n : Nat} {cA : ClassId} {j : Int} {v : Option Nat} (h : ArR f a cA n) : fR (rU f a j v) b k = fR f b k := by unfold fR; rw [fV_rU h]
