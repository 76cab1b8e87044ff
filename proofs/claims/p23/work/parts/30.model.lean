/-! ===== the reference's cells: one object at a, its rows at ad k (k: the field) ===== -/
def mref (k : Nat) : Bool := [0, 1, 2, 3, 4, 6, 7, 8, 11, 12, 13, 21, 23, 25].contains k
def mlen (k : Nat) : Nat := match k with
  | 0 => 36525
  | 1 => 36525
  | 2 => 36525
  | 3 => 36525
  | 4 => 528
  | 6 => 1056
  | 7 => 2
  | 8 => 168
  | 11 => 73050
  | 12 => 73050
  | 13 => 2
  | 21 => 44
  | 23 => 3300
  | 25 => 90721
  | _ => 0
def mcl (cy : Cy) (k : Nat) : ClassId := if k = 25 then cy.2.2.1 else cy.2.1
def MS (cy : Cy) (L : List Nat) (f : Nat → va_E) (a : Nat) (ad : Nat → Nat) : Prop :=
  a ∈ L ∧ Ob f a 8 ∧ (∀ k : Nat, mref k = true → fR f a k = some (ad k) ∧ ad k ∈ L ∧ ArI f (ad k) (mcl cy k) (mlen k)) ∧ (∀ i j : Nat, mref i = true → mref j = true → ad i = ad j → i = j)
theorem MS_pU {cy : Cy} {L : List Nat} {f : Nat → va_E} {a k : Nat} {ad : Nat → Nat} {v : Int32} (h : MS cy L f a ad) (hk : (sg 8)[k]? = some 0) : MS cy L (pU f a k (.int v)) a ad := by
  refine ⟨h.1, Ob_pU h.2.1 hk rfl h.2.1, fun j hj => ?_, h.2.2.2⟩
  obtain ⟨h1, h2, h3⟩ := h.2.2.1 j hj
  refine ⟨?_, h2, ArI_pU h3⟩
  by_cases e : j = k
  · subst e; rw [h.2.1.fRn hk] at h1; cases h1
  · rw [fR_pU (Or.inr e)]; exact h1
theorem MS_aU {cy : Cy} {L : List Nat} {f : Nat → va_E} {a k : Nat} {ad : Nat → Nat} {j : Int} {v : Int32} (h : MS cy L f a ad) (hk : mref k = true) : MS cy L (aU f (ad k) j v) a ad := by
  have hA := (h.2.2.1 k hk).2.2
  refine ⟨h.1, Ob_aU hA h.2.1, fun i hi => ?_, h.2.2.2⟩
  obtain ⟨h1, h2, h3⟩ := h.2.2.1 i hi
  exact ⟨by rw [fR_aU hA]; exact h1, h2, ArI_aU hA h3⟩
/-- what a put leaves -/
theorem MS.fI_aU {cy : Cy} {L : List Nat} {f : Nat → va_E} {a k : Nat} {ad : Nat → Nat} {j : Int} {v : Int32} (h : MS cy L f a ad) (hk : mref k = true) (b i : Nat) : fI (aU f (ad k) j v) b i = fI f b i := Jvm.Pilot.@@N@@.fI_aU (h.2.2.1 k hk).2.2
theorem MS.aI_pU {cy : Cy} {L : List Nat} {f : Nat → va_E} {a k : Nat} {ad : Nat → Nat} {v : Value} (h : MS cy L f a ad) (b : Nat) (j : Int) : aI (pU f a k v) b j = aI f b j := Jvm.Pilot.@@N@@.aI_pU h.2.1
theorem MS.aI_ne {cy : Cy} {L : List Nat} {f : Nat → va_E} {a k i : Nat} {ad : Nat → Nat} {j : Int} {v : Int32} (h : MS cy L f a ad) (hk : mref k = true) (hi : mref i = true) (e : i ≠ k) (x : Int) : aI (aU f (ad k) j v) (ad i) x = aI f (ad i) x := aI_aU_ne (fun q => e (h.2.2.2 i k hi hk q))
theorem MS.aI_nj {cy : Cy} {L : List Nat} {f : Nat → va_E} {a k : Nat} {ad : Nat → Nat} {j x : Int} {v : Int32} (h : MS cy L f a ad) (hk : mref k = true) (hj : 0 ≤ j) (hx : 0 ≤ x) (e : x ≠ j) : aI (aU f (ad k) j v) (ad k) x = aI f (ad k) x := aI_aU_nj (h.2.2.1 k hk).2.2 hj hx e
theorem MS.aI_self {cy : Cy} {L : List Nat} {f : Nat → va_E} {a k : Nat} {ad : Nat → Nat} {j x : Int} (h : MS cy L f a ad) (hk : mref k = true) (rx : rg x) : aI (aU f (ad k) j (iI x)) (ad k) j = x := aI_aU_self (h.2.2.1 k hk).2.2 rx
/-- all stays but the rows rs and the numbers fs -/
def Kp (a : Nat) (ad : Nat → Nat) (rs fs : List Nat) (f f1 : Nat → va_E) : Prop := (∀ k : Nat, mref k = true → k ∉ rs → ∀ x : Int, aI f1 (ad k) x = aI f (ad k) x) ∧ (∀ k : Nat, k ∉ fs → fI f1 a k = fI f a k)
theorem Kp.refl (a : Nat) (ad : Nat → Nat) (rs fs : List Nat) (f : Nat → va_E) : Kp a ad rs fs f f := ⟨fun _ _ _ _ => rfl, fun _ _ => rfl⟩
theorem Kp.trans {a : Nat} {ad : Nat → Nat} {rs fs : List Nat} {f g h : Nat → va_E} (p : Kp a ad rs fs f g) (q : Kp a ad rs fs g h) : Kp a ad rs fs f h := ⟨fun k m n x => (q.1 k m n x).trans (p.1 k m n x), fun k n => (q.2 k n).trans (p.2 k n)⟩
theorem Kp.mono {a : Nat} {ad : Nat → Nat} {rs fs rs' fs' : List Nat} {f g : Nat → va_E} (p : Kp a ad rs fs f g) (h1 : rs.all (fun k => rs'.contains k) = true) (h2 : fs.all (fun k => fs'.contains k) = true) : Kp a ad rs' fs' f g :=
  ⟨fun k m n x => p.1 k m (fun z => n (by have := List.all_eq_true.mp h1 k z; exact List.contains_iff_mem.mp this)) x, fun k n => p.2 k (fun z => n (by have := List.all_eq_true.mp h2 k z; exact List.contains_iff_mem.mp this))⟩
theorem Kp_pU {cy : Cy} {L : List Nat} {f : Nat → va_E} {a k : Nat} {ad : Nat → Nat} {rs fs : List Nat} {v : Value} (h : MS cy L f a ad) (hk : k ∈ fs) : Kp a ad rs fs f (pU f a k v) :=
  ⟨fun _ _ _ x => h.aI_pU _ x, fun j n => fI_pU (Or.inr (fun e => n (e ▸ hk)))⟩
theorem Kp_aU {cy : Cy} {L : List Nat} {f : Nat → va_E} {a k : Nat} {ad : Nat → Nat} {rs fs : List Nat} {j : Int} {v : Int32} (h : MS cy L f a ad) (hm : mref k = true) (hk : k ∈ rs) : Kp a ad rs fs f (aU f (ad k) j v) :=
  ⟨fun i m n x => h.aI_ne hm m (fun e => n (e ▸ hk)) x, fun i _ => h.fI_aU hm _ _⟩
