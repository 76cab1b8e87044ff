/-- what stays where a BookIndex's own numbers may change -/
def Ey (cy : Cy) (f f1 : Nat → va_E) : Prop := Sh f f1 ∧ (∀ a k : Nat, Ob f a 7 → fR f1 a k = fR f a k) ∧ (∀ (a : Nat) (j : Int), ArR f a cy.2.2.2.2 2 → aR f1 a j = aR f a j)
theorem Ey.refl (cy : Cy) (f : Nat → va_E) : Ey cy f f := ⟨Sh.refl f, fun _ _ _ => rfl, fun _ _ _ => rfl⟩
theorem Ey.trans {cy : Cy} {f g h : Nat → va_E} (a : Ey cy f g) (b : Ey cy g h) : Ey cy f h := ⟨a.1.trans b.1, fun x k o => (b.2.1 x k (a.1.1 x 7 o)).trans (a.2.1 x k o), fun x j o => (b.2.2 x j (a.1.2.2 x _ _ o)).trans (a.2.2 x j o)⟩
theorem Ex.ey {cy : Cy} {f g : Nat → va_E} (h : Ex cy f g) : Ey cy f g := ⟨h.1, fun a k o => by unfold fR; rw [h.2.1 a k o], h.2.2⟩
theorem Ex.fI {cy : Cy} {f g : Nat → va_E} (h : Ex cy f g) {a : Nat} (k : Nat) (o : Ob f a 7) : fI g a k = fI f a k := by unfold Jvm.Pilot.@@N@@.fI; rw [h.2.1 a k o]
theorem Ey_pU {cy : Cy} {f : Nat → va_E} {a k ci : Nat} {x : Int32} (h : Ob f a ci) (hk : (sg ci)[k]? = some 0) : Ey cy f (pU f a k (.int x)) := by
  have s : Sh f (pU f a k (.int x)) := Sh_pU h hk rfl
  refine ⟨s, fun b j o => ?_, fun _ _ _ => aR_pU h⟩
  by_cases e : b = a ∧ j = k
  · obtain ⟨rfl, rfl⟩ := e
    rw [h.fRn hk]
    exact (s.1 _ _ h).fRn hk
  · exact fR_pU (by rcases Decidable.not_and_iff_or_not.mp e with q | q; exact Or.inl q; exact Or.inr q)
