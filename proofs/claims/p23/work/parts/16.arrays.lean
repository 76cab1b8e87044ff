/-! ===== rows of chars, booleans, references; copies ===== -/
def aX (f : Nat → va_E) (a : Nat) (h : Nat → Int32) : Nat → va_E := match f a with
  | .inl (cA, n, .inl _) => va_up f a (.inl (cA, n, .inl h))
  | _ => f
theorem aX_eq {f : Nat → va_E} {a n : Nat} {cA : ClassId} {g h : Nat → Int32} (e : f a = .inl (cA, n, .inl g)) : aX f a h = va_up f a (.inl (cA, n, .inl h)) := by
  unfold aX; rw [e]
theorem aX_ne {f : Nat → va_E} {a b : Nat} {h : Nat → Int32} (e : b ≠ a) : aX f a h b = f b := by
  unfold aX
  rcases f a with ⟨cA, n, g | g⟩ | o
  · exact va_up_ne _ _ e
  · rfl
  · rfl
theorem fV_aX {f : Nat → va_E} {a b k n : Nat} {cA : ClassId} {g : Nat → Int32} (h : ArI f a cA n) : fV (aX f a g) b k = fV f b k := by
  by_cases e : b = a
  · subst e
    obtain ⟨g', hg⟩ := h
    unfold fV
    rw [aX_eq hg, va_up_self, hg]
  · unfold fV; rw [aX_ne e]
theorem fI_aX {f : Nat → va_E} {a b k n : Nat} {cA : ClassId} {g : Nat → Int32} (h : ArI f a cA n) : fI (aX f a g) b k = fI f b k := by unfold fI; rw [fV_aX h]
theorem fR_aX {f : Nat → va_E} {a b k n : Nat} {cA : ClassId} {g : Nat → Int32} (h : ArI f a cA n) : fR (aX f a g) b k = fR f b k := by unfold fR; rw [fV_aX h]
theorem Ob_aX {f : Nat → va_E} {a b ci n : Nat} {cA : ClassId} {g : Nat → Int32} (h : ArI f a cA n) (hb : Ob f b ci) : Ob (aX f a g) b ci := by
  obtain ⟨fs, h1, h2⟩ := hb
  by_cases e : b = a
  · subst e; obtain ⟨g', hg⟩ := h; rw [hg] at h1; cases h1
  · exact ⟨fs, by rw [aX_ne e]; exact h1, h2⟩
theorem ArI_aX {f : Nat → va_E} {a b n n' : Nat} {cA cB : ClassId} {g : Nat → Int32} (h : ArI f a cA n) (hb : ArI f b cB n') : ArI (aX f a g) b cB n' := by
  obtain ⟨g', hg⟩ := hb
  by_cases e : b = a
  · subst e; exact ⟨_, by rw [aX_eq hg]; exact va_up_self _ _ _⟩
  · exact ⟨g', by rw [aX_ne e]; exact hg⟩
theorem ArR_aX {f : Nat → va_E} {a b n n' : Nat} {cA cB : ClassId} {g : Nat → Int32} (h : ArI f a cA n) (hb : ArR f b cB n') : ArR (aX f a g) b cB n' := by
  obtain ⟨g', hg⟩ := hb
  by_cases e : b = a
  · subst e; obtain ⟨g2, hg'⟩ := h; rw [hg] at hg'; cases hg'
  · exact ⟨g', by rw [aX_ne e]; exact hg⟩
theorem Ob_aX' {f : Nat → va_E} {a b ci n : Nat} {cA : ClassId} {g : Nat → Int32} (h : ArI f a cA n) (hb : Ob (aX f a g) b ci) : Ob f b ci := by
  obtain ⟨fs, h1, h2⟩ := hb
  by_cases e : b = a
  · subst e; obtain ⟨g', hg⟩ := h; rw [aX_eq hg, va_up_self] at h1; cases h1
  · exact ⟨fs, by rw [aX_ne e] at h1; exact h1, h2⟩
theorem ArR_aX' {f : Nat → va_E} {a b n n' : Nat} {cA cB : ClassId} {g : Nat → Int32} (h : ArI f a cA n) (hb : ArR (aX f a g) b cB n') : ArR f b cB n' := by
  obtain ⟨g', h1⟩ := hb
  by_cases e : b = a
  · subst e; obtain ⟨g2, hg⟩ := h; rw [aX_eq hg, va_up_self] at h1; cases h1
  · exact ⟨g', by rw [aX_ne e] at h1; exact h1⟩
theorem aR_aX {f : Nat → va_E} {a b n : Nat} {cA : ClassId} {i : Int} {g : Nat → Int32} (h : ArI f a cA n) : aR (aX f a g) b i = aR f b i := by
  by_cases e : b = a
  · subst e
    obtain ⟨g', hg⟩ := h
    unfold aR
    rw [aX_eq hg, va_up_self, hg]
  · unfold aR; rw [aX_ne e]
theorem Sh_aX {f : Nat → va_E} {a n : Nat} {cA : ClassId} {g : Nat → Int32} (h : ArI f a cA n) : Sh f (aX f a g) :=
  ⟨fun _ _ o => Ob_aX h o, fun _ _ _ o => ArI_aX h o, fun _ _ _ o => ArR_aX h o⟩
theorem Ex_aX {cy : Cy} {f : Nat → va_E} {a n : Nat} {cA : ClassId} {g : Nat → Int32} (h : ArI f a cA n) : Ex cy f (aX f a g) :=
  ⟨Sh_aX h, fun _ _ _ => fV_aX h, fun _ _ _ => aR_aX h⟩
theorem GI.putX {cy : Cy} {M : List Nat} {f : Nat → va_E} {a n : Nat} {cA : ClassId} {h : Nat → Int32} (g : GI cy M f) (ha : ArI f a cA n) : GI cy M (aX f a h) := by
  have s : Sh f (aX f a h) := Sh_aX ha
  refine ⟨fun b hb cj i o => ?_, fun b hb cj i o => ?_, fun b hb i o h0 h1 => ?_, fun b hb i o h0 h1 => ?_⟩
  · rw [fI_aX ha]; exact g.1 b hb cj i (Ob_aX' ha o)
  · rw [fR_aX ha]; exact (g.2.1 b hb cj i (Ob_aX' ha o)).mono s
  · obtain ⟨c, h2, h3, h4⟩ := g.2.2.1 b hb i (ArR_aX' ha o) h0 h1
    exact ⟨c, by rw [aR_aX ha]; exact h2, h3, s.1 _ _ h4⟩
  · rw [aR_aX ha]
    rcases g.2.2.2 b hb i (ArR_aX' ha o) h0 h1 with h2 | ⟨c, h2, h3, h4⟩
    · exact Or.inl h2
    · exact Or.inr ⟨c, h2, h3, s.1 _ _ h4⟩
/-- rows of references -/
theorem fV_rU {f : Nat → va_E} {a b k n : Nat} {cA : ClassId} {j : Int} {v : Option Nat} (h : ArR f a cA n) : fV (rU f a j v) b k = fV f b k := by
  by_cases e : b = a
  · subst e
    obtain ⟨g, hg⟩ := h
    unfold fV
    rw [rU_eq hg, va_up_self, hg]
  · unfold fV; rw [rU_ne e]
theorem Ob_rU {f : Nat → va_E} {a b ci n : Nat} {cA : ClassId} {j : Int} {v : Option Nat} (h : ArR f a cA n) (hb : Ob f b ci) : Ob (rU f a j v) b ci := by
  obtain ⟨fs, h1, h2⟩ := hb
  by_cases e : b = a
  · subst e; obtain ⟨g, hg⟩ := h; rw [hg] at h1; cases h1
  · exact ⟨fs, by rw [rU_ne e]; exact h1, h2⟩
theorem ArI_rU {f : Nat → va_E} {a b n n' : Nat} {cA cB : ClassId} {j : Int} {v : Option Nat} (h : ArR f a cA n) (hb : ArI f b cB n') : ArI (rU f a j v) b cB n' := by
  obtain ⟨g, hg⟩ := hb
  by_cases e : b = a
  · subst e; obtain ⟨g', hg'⟩ := h; rw [hg] at hg'; cases hg'
  · exact ⟨g, by rw [rU_ne e]; exact hg⟩
theorem ArR_rU {f : Nat → va_E} {a b n n' : Nat} {cA cB : ClassId} {j : Int} {v : Option Nat} (h : ArR f a cA n) (hb : ArR f b cB n') : ArR (rU f a j v) b cB n' := by
  obtain ⟨g, hg⟩ := hb
  by_cases e : b = a
  · subst e; exact ⟨_, by rw [rU_eq hg]; exact va_up_self _ _ _⟩
  · exact ⟨g, by rw [rU_ne e]; exact hg⟩
theorem Ob_rU' {f : Nat → va_E} {a b ci n : Nat} {cA : ClassId} {j : Int} {v : Option Nat} (h : ArR f a cA n) (hb : Ob (rU f a j v) b ci) : Ob f b ci := by
  obtain ⟨fs, h1, h2⟩ := hb
  by_cases e : b = a
  · subst e; obtain ⟨g, hg⟩ := h; rw [rU_eq hg, va_up_self] at h1; cases h1
  · exact ⟨fs, by rw [rU_ne e] at h1; exact h1, h2⟩
theorem ArR_rU' {f : Nat → va_E} {a b n n' : Nat} {cA cB : ClassId} {j : Int} {v : Option Nat} (h : ArR f a cA n) (hb : ArR (rU f a j v) b cB n') : ArR f b cB n' := by
  obtain ⟨g', h1⟩ := hb
  by_cases e : b = a
  · subst e
    obtain ⟨g, hg⟩ := h
    rw [rU_eq hg, va_up_self] at h1
    cases h1
    exact ⟨g, hg⟩
  · exact ⟨g', by rw [rU_ne e] at h1; exact h1⟩
theorem ArR.uniq {f : Nat → va_E} {a n n' : Nat} {cA cB : ClassId} (h : ArR f a cA n) (g : ArR f a cB n') : cA = cB ∧ n = n' := by
  obtain ⟨h1, h2⟩ := h
  obtain ⟨g1, g2⟩ := g
  rw [h2] at g2
  cases g2
  exact ⟨rfl, rfl⟩
theorem aR_rU_self {f : Nat → va_E} {a n : Nat} {cA : ClassId} {j : Int} {v : Option Nat} (h : ArR f a cA n) : aR (rU f a j v) a j = v := by
  obtain ⟨g, hg⟩ := h
  unfold aR
  rw [rU_eq hg, va_up_self]
  exact va_up_self _ _ _
theorem aR_rU_nj {f : Nat → va_E} {a n : Nat} {cA : ClassId} {j i : Int} {v : Option Nat} (h : ArR f a cA n) (hj : 0 ≤ j) (hi : 0 ≤ i) (hij : i ≠ j) : aR (rU f a j v) a i = aR f a i := by
  obtain ⟨g, hg⟩ := h
  unfold aR
  rw [rU_eq hg, va_up_self, hg]
  exact va_up_ne _ _ (by omega)
theorem aR_rU_ne {f : Nat → va_E} {a b : Nat} {j i : Int} {v : Option Nat} (h : b ≠ a) : aR (rU f a j v) b i = aR f b i := by unfold aR; rw [rU_ne h]
theorem Sh_rU {f : Nat → va_E} {a n : Nat} {cA : ClassId} {j : Int} {v : Option Nat} (h : ArR f a cA n) : Sh f (rU f a j v) :=
  ⟨fun _ _ o => Ob_rU h o, fun _ _ _ o => ArI_rU h o, fun _ _ _ o => ArR_rU h o⟩
/-- a Booking is put into a shelf's row -/
theorem Ex_rU {cy : Cy} {f : Nat → va_E} {a : Nat} {j : Int} {v : Option Nat} (h : ArR f a cy.2.2.2.1 12) : Ex cy f (rU f a j v) :=
  ⟨Sh_rU h, fun _ _ _ => fV_rU h, fun b i o => aR_rU_ne (fun e => by subst e; have := (h.uniq o).2; cases this)⟩
theorem GI.putB {cy : Cy} {M : List Nat} {f : Nat → va_E} {a b : Nat} {j : Int} (g : GI cy M f) (ha : ArR f a cy.2.2.2.1 12) (hj : 0 ≤ j) (hb : b ∈ M) (ob : Ob f b 0) : GI cy M (rU f a j (some b)) := by
  have s : Sh f (rU f a j (some b)) := Sh_rU ha
  refine ⟨fun c hc cj i o => ?_, fun c hc cj i o => ?_, fun c hc i o h0 h1 => ?_, fun c hc i o h0 h1 => ?_⟩
  · unfold fI; rw [fV_rU ha]; exact g.1 c hc cj i (Ob_rU' ha o)
  · unfold fR; rw [fV_rU ha]; exact (g.2.1 c hc cj i (Ob_rU' ha o)).mono s
  · by_cases e : c = a
    · subst e
      by_cases ei : i = j
      · subst ei
        exact ⟨b, aR_rU_self ha, hb, s.1 _ _ ob⟩
      · obtain ⟨d, h2, h3, h4⟩ := g.2.2.1 c hc i (ArR_rU' ha o) h0 h1
        exact ⟨d, by rw [aR_rU_nj ha hj h0 ei]; exact h2, h3, s.1 _ _ h4⟩
    · obtain ⟨d, h2, h3, h4⟩ := g.2.2.1 c hc i (ArR_rU' ha o) h0 h1
      exact ⟨d, by rw [aR_rU_ne e]; exact h2, h3, s.1 _ _ h4⟩
  · have e : c ≠ a := fun e => by subst e; have := (ha.uniq (ArR_rU' ha o)).2; cases this
    rw [aR_rU_ne e]
    rcases g.2.2.2 c hc i (ArR_rU' ha o) h0 h1 with h2 | ⟨d, h2, h3, h4⟩
    · exact Or.inl h2
    · exact Or.inr ⟨d, h2, h3, s.1 _ _ h4⟩
/-- a Shelf is put into the images' row -/
theorem GI.putS {cy : Cy} {M : List Nat} {f : Nat → va_E} {a b : Nat} {j : Int} (g : GI cy M f) (ha : ArR f a cy.2.2.2.2 2) (hj : 0 ≤ j) (hb : b ∈ M) (ob : Ob f b 5) : GI cy M (rU f a j (some b)) := by
  have s : Sh f (rU f a j (some b)) := Sh_rU ha
  refine ⟨fun c hc cj i o => ?_, fun c hc cj i o => ?_, fun c hc i o h0 h1 => ?_, fun c hc i o h0 h1 => ?_⟩
  · unfold fI; rw [fV_rU ha]; exact g.1 c hc cj i (Ob_rU' ha o)
  · unfold fR; rw [fV_rU ha]; exact (g.2.1 c hc cj i (Ob_rU' ha o)).mono s
  · have e : c ≠ a := fun e => by subst e; have := (ha.uniq (ArR_rU' ha o)).2; cases this
    obtain ⟨d, h2, h3, h4⟩ := g.2.2.1 c hc i (ArR_rU' ha o) h0 h1
    exact ⟨d, by rw [aR_rU_ne e]; exact h2, h3, s.1 _ _ h4⟩
  · by_cases e : c = a
    · subst e
      by_cases ei : i = j
      · subst ei
        exact Or.inr ⟨b, aR_rU_self ha, hb, s.1 _ _ ob⟩
      · rw [aR_rU_nj ha hj h0 ei]
        rcases g.2.2.2 c hc i (ArR_rU' ha o) h0 h1 with h2 | ⟨d, h2, h3, h4⟩
        · exact Or.inl h2
        · exact Or.inr ⟨d, h2, h3, s.1 _ _ h4⟩
    · rw [aR_rU_ne e]
      rcases g.2.2.2 c hc i (ArR_rU' ha o) h0 h1 with h2 | ⟨d, h2, h3, h4⟩
      · exact Or.inl h2
      · exact Or.inr ⟨d, h2, h3, s.1 _ _ h4⟩
section QA
variable {p : Program} {l : Launch} {e : Env} {R : Room} {s : State} {m : MethodId} {args : Array Value} {below : List Frame} {meth : Method} {c : Code} {H : Heap} {locs : List Loc} {cells slots : Nat} {Q : State → Prop}
variable {cc : ByteArray} {pc : Nat} {ls : Array Slot} {rest : List Value} {D : va_G} {A : Nat → Prop} {a : Nat} {tys : List (ClassId × FieldType)} {H0 : Heap} {L : List Nat} {f : Nat → va_E}
theorem q_chld (hx : p.tables.exec = Jvm.exec) (hb : c.code = cc) (hK : va_K D vwCl tys s) (hw : Wd D A H0 L f H locs) (ha : a ∈ L) (t0 : Nat) {cA : ClassId} {n : Nat} (ho : ArI f a cA n) (ht : tys[t0]? = some (cA, .char)) {i : Int} (ri : rg i) (h0 : 0 ≤ i) (h1 : i < n) (d : decode cc pc = .ok (.caload, 1))
    (kk : ∀ z : Int, -2147483648 ≤ z → z ≤ 2147483647 → z = aI f a i → W p l e R s m args below meth c H locs cells slots Q (F0 m (pc + 1) ls (.int (iI z) :: rest))) : W p l e R s m args below meth c H locs cells slots Q (F0 m pc ls (.int (iI i) :: .ref a :: rest)) := by
  obtain ⟨g, hg⟩ := ho
  obtain ⟨q0, hq⟩ := hw.at ha
  rw [hg] at hq
  refine va_cald hx hb hK hw.1 q0 t0 hq ht (iI_in ri h0 h1) d ?_
  refine q_num fun z z1 z2 z3 => kk z z1 z2 ?_
  rw [z3, iI_nat ri]
  unfold aI
  rw [hg]
theorem q_chst (hx : p.tables.exec = Jvm.exec) (hb : c.code = cc) (hK : va_K D vwCl tys s) (hw : Wd D A H0 L f H locs) (ha : a ∈ L) (t0 : Nat) {cA : ClassId} {n : Nat} (ho : ArI f a cA n) (ht : tys[t0]? = some (cA, .char)) {i x : Int} (ri : rg i) (h0 : 0 ≤ i) (h1 : i < n) (d : decode cc pc = .ok (.castore, 1))
    (kk : ∀ (H1 : Heap) (locs1 : List Loc), Wd D A H0 L (aU f a i (vp_nar .char (iI x))) H1 locs1 → W p l e R s m args below meth c H1 locs1 cells slots Q (F0 m (pc + 1) ls rest)) : W p l e R s m args below meth c H locs cells slots Q (F0 m pc ls (.int (iI x) :: .int (iI i) :: .ref a :: rest)) := by
  obtain ⟨g, hg⟩ := ho
  obtain ⟨q0, hq⟩ := hw.at ha
  have hq' := hq
  rw [hg] at hq
  refine va_cast hx hb hK hw.1 hw.2.1 hw.2.2 q0 t0 hq ht (iI_in ri h0 h1) d (fun H1 locs1 g1 g2 g3 => ?_)
  rw [hw.put ha hq', iI_nat ri] at g1 g2
  exact kk H1 locs1 (by rw [aU_eq hg]; exact ⟨g1, g2, g3⟩)
theorem q_zald (hx : p.tables.exec = Jvm.exec) (hb : c.code = cc) (hK : va_K D vwCl tys s) (hw : Wd D A H0 L f H locs) (ha : a ∈ L) (t0 : Nat) {cA : ClassId} {n : Nat} (ho : ArI f a cA n) (ht : tys[t0]? = some (cA, .boolean)) {i : Int} (ri : rg i) (h0 : 0 ≤ i) (h1 : i < n) (d : decode cc pc = .ok (.baload, 1))
    (kk : ∀ z : Int, -2147483648 ≤ z → z ≤ 2147483647 → z = aI f a i → W p l e R s m args below meth c H locs cells slots Q (F0 m (pc + 1) ls (.int (iI z) :: rest))) : W p l e R s m args below meth c H locs cells slots Q (F0 m pc ls (.int (iI i) :: .ref a :: rest)) := by
  obtain ⟨g, hg⟩ := ho
  obtain ⟨q0, hq⟩ := hw.at ha
  rw [hg] at hq
  refine va_zald hx hb hK hw.1 q0 t0 hq ht (iI_in ri h0 h1) d ?_
  refine q_num fun z z1 z2 z3 => kk z z1 z2 ?_
  rw [z3, iI_nat ri]
  unfold aI
  rw [hg]
theorem q_zast (hx : p.tables.exec = Jvm.exec) (hb : c.code = cc) (hK : va_K D vwCl tys s) (hw : Wd D A H0 L f H locs) (ha : a ∈ L) (t0 : Nat) {cA : ClassId} {n : Nat} (ho : ArI f a cA n) (ht : tys[t0]? = some (cA, .boolean)) {i x : Int} (ri : rg i) (h0 : 0 ≤ i) (h1 : i < n) (d : decode cc pc = .ok (.bastore, 1))
    (kk : ∀ (H1 : Heap) (locs1 : List Loc), Wd D A H0 L (aU f a i (vp_nar .boolean (iI x))) H1 locs1 → W p l e R s m args below meth c H1 locs1 cells slots Q (F0 m (pc + 1) ls rest)) : W p l e R s m args below meth c H locs cells slots Q (F0 m pc ls (.int (iI x) :: .int (iI i) :: .ref a :: rest)) := by
  obtain ⟨g, hg⟩ := ho
  obtain ⟨q0, hq⟩ := hw.at ha
  have hq' := hq
  rw [hg] at hq
  refine va_zast hx hb hK hw.1 hw.2.1 hw.2.2 q0 t0 hq ht (iI_in ri h0 h1) d (fun H1 locs1 g1 g2 g3 => ?_)
  rw [hw.put ha hq', iI_nat ri] at g1 g2
  exact kk H1 locs1 (by rw [aU_eq hg]; exact ⟨g1, g2, g3⟩)
theorem q_aald (hx : p.tables.exec = Jvm.exec) (hb : c.code = cc) (hK : va_K D vwCl tys s) (hw : Wd D A H0 L f H locs) (ha : a ∈ L) (t0 : Nat) {cA : ClassId} {C : String} {n : Nat} (ho : ArR f a cA n) (ht : tys[t0]? = some (cA, .object C)) {i : Int} (ri : rg i) (h0 : 0 ≤ i) (h1 : i < n) {o : Option Nat} (hr : aR f a i = o) (d : decode cc pc = .ok (.aaload, 1))
    (kk : W p l e R s m args below meth c H locs cells slots Q (F0 m (pc + 1) ls (va_rf o :: rest))) : W p l e R s m args below meth c H locs cells slots Q (F0 m pc ls (.int (iI i) :: .ref a :: rest)) := by
  obtain ⟨g, hg⟩ := ho
  obtain ⟨q0, hq⟩ := hw.at ha
  rw [hg] at hq
  refine va_aldq hx hb hK hw.1 q0 t0 hq ht (iI_in ri h0 h1) d ?_
  rw [iI_nat ri]
  have : g i.toNat = o := by rw [← hr]; unfold aR; rw [hg]
  rw [this]
  exact kk
theorem q_aast (hx : p.tables.exec = Jvm.exec) (hb : c.code = cc) (hK : va_K D vwCl tys s) (hw : Wd D A H0 L f H locs) (ha : a ∈ L) (t0 : Nat) {cA : ClassId} {r : vw_C} {n v ci : Nat} (ho : ArR f a cA n) (ht : tys[t0]? = some (cA, .object r.1)) (hv : v ∈ L) (ov : Ob f v ci) (hc : vwCl[ci]? = some r) {i : Int} (ri : rg i) (h0 : 0 ≤ i) (h1 : i < n) (d : decode cc pc = .ok (.aastore, 1))
    (kk : ∀ (H1 : Heap) (locs1 : List Loc), Wd D A H0 L (rU f a i (some v)) H1 locs1 → W p l e R s m args below meth c H1 locs1 cells slots Q (F0 m (pc + 1) ls rest)) : W p l e R s m args below meth c H locs cells slots Q (F0 m pc ls (.ref v :: .int (iI i) :: .ref a :: rest)) := by
  obtain ⟨g, hg⟩ := ho
  obtain ⟨fs, hf, -⟩ := ov
  obtain ⟨q0, hq⟩ := hw.at ha
  obtain ⟨q1, hq1⟩ := hw.at hv
  have hq' := hq
  rw [hg] at hq
  rw [hf] at hq1
  refine va_astq hx hb hK hw.1 hw.2.1 hw.2.2 q0 t0 q1 ci hq ht hq1 hc (iI_in ri h0 h1) d (fun H1 locs1 g1 g2 g3 => ?_)
  rw [hw.put ha hq', iI_nat ri] at g1 g2
  exact kk H1 locs1 (by rw [rU_eq hg]; exact ⟨g1, g2, g3⟩)
theorem q_alenR (hx : p.tables.exec = Jvm.exec) (hb : c.code = cc) (hK : va_K D vwCl tys s) (hw : Wd D A H0 L f H locs) (ha : a ∈ L) (t0 : Nat) {cA : ClassId} {n : Nat} (ho : ArR f a cA n) {ty : FieldType} (ht : tys[t0]? = some (cA, ty)) (d : decode cc pc = .ok (.arraylength, 1))
    (kk : W p l e R s m args below meth c H locs cells slots Q (F0 m (pc + 1) ls (.int (iI n) :: rest))) : W p l e R s m args below meth c H locs cells slots Q (F0 m pc ls (.ref a :: rest)) := by
  obtain ⟨g, hg⟩ := ho
  obtain ⟨q0, hq⟩ := hw.at ha
  rw [hg] at hq
  exact va_alen hx hb hK hw.1 q0 t0 hq ht (show Int32.ofNat n = iI n from Int32.ofInt_eq_ofNat.symm) d kk
end QA
section QY
variable {p : Program} {l : Launch} {e : Env} {R : Room} {s : State} {m : MethodId} {args : Array Value} {below : List Frame} {meth : Method} {c : Code} {H : Heap} {locs : List Loc} {cells slots : Nat} {Q : State → Prop}
variable {cc : ByteArray} {pc : Nat} {ls : Array Slot} {rest : List Value} {D : va_G} {A : Nat → Prop} {a a0 : Nat} {tys : List (ClassId × FieldType)} {H0 : Heap} {L : List Nat} {f : Nat → va_E}
theorem q_copy (hx : p.tables.exec = Jvm.exec) (hb : c.code = cc) (hml : c.maxLocals = ls.size) {own : String} {index : Nat} (hown : s.vm.findClass own = some m.cls) (h1 : (Cond.methodLink own index arraycopyName).before args s = true) (h2 : (Cond.native arraycopyName).before args s = true) (h3 : (Cond.static arraycopyName).before args s = true) (h4 : (Cond.initialized "java/lang/System").before args s = true)
    (hK : va_K D vwCl tys s) (hw : Wd D A H0 L f H locs) (t0 : Nat) {cA : ClassId} {n0 n1 n : Nat} (hn : (n : Int) ≤ 2147483647) (ha0 : a0 ∈ L) (o0 : ArI f a0 cA n0) (ha : a ∈ L) (o1 : ArI f a cA n1) (ht : tys[t0]? = some (cA, .int)) (g0 : n ≤ n0) (g1 : n ≤ n1)
    (hframes : 1 ≤ R.frames) (hlocals : (rest.map fun v => v.category).sum + (nativeFrameWords "java/lang/System" "arraycopy" 5 + 11) ≤ R.locals) (d : decode cc pc = .ok (.invokestatic index, 3))
    (kk : ∀ (g : Nat → Int32) (H1 : Heap) (locs1 : List Loc), Wd D A H0 L (aX f a g) H1 locs1 → W p l e R s m args below meth c H1 locs1 cells slots Q (F0 m (pc + 3) ls rest)) : W p l e R s m args below meth c H locs cells slots Q (F0 m pc ls (.int (iI n) :: .int (iI 0) :: .ref a :: .int (iI 0) :: .ref a0 :: rest)) := by
  obtain ⟨v0, e0⟩ := o0
  obtain ⟨v1, e1⟩ := o1
  obtain ⟨q0, hq0⟩ := hw.at ha0
  obtain ⟨q1, hq1⟩ := hw.at ha
  have hq' := hq1
  rw [e0] at hq0
  rw [e1] at hq1
  have rn : rg (n : Int) := ⟨by omega, hn⟩
  have z0 : (iI 0).toNatClampNeg = 0 := by rw [iI_nat rg_0]; rfl
  have zn : (iI (n : Int)).toNatClampNeg = n := by rw [iI_nat rn]; rfl
  have nn : ∀ x : Int, rg x → 0 ≤ x → ¬ iI x < 0 := fun x rx h q => by have := (iI_lt rx rg_0).mp q; omega
  refine va_copyi hx hb hml hown h1 h2 h3 h4 hK hw.1 hw.2.1 hw.2.2 q0 q1 t0 t0 hq0 hq1 ht ht rfl (nn 0 rg_0 (by omega)) (nn 0 rg_0 (by omega)) (nn n rn (by omega)) (by rw [z0, zn]; omega) (by rw [z0, zn]; omega) (fun i hi => rfl) hframes hlocals d (fun H1 locs1 k1 k2 k3 => ?_)
  rw [hw.put ha hq'] at k1 k2
  exact kk _ H1 locs1 (by rw [aX_eq e1]; exact ⟨k1, k2, k3⟩)
end QY
