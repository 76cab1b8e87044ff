/-! ===== making of cells ===== -/
theorem va_RA.eq {U : State} {cA cB : ClassId} {ty : FieldType} (h : va_RA U cA ty) (g : va_RA U cB ty) : cA = cB := by
  have key : ∀ {c : ClassId}, va_RA U c ty → U.vm.findClass ("[" ++ ty.toString) = some c := by
    intro c h
    cases ty with
    | object C => obtain ⟨kA, comp, h1, h2, h3, h4⟩ := h; exact h4
    | _ => exact h
  have h1 := key h
  have h2 := key g
  rw [h1] at h2
  exact Option.some.inj h2
theorem va_D.fresh {A : Nat → Prop} {L : List Nat} {f : Nat → va_E} {q : Nat} {e : va_E} (h : va_D A (va_pl L f ++ [(q, e)])) : q ∉ L := by
  intro hq
  obtain ⟨k, hk⟩ := va_pl_get (X := []) (f := f) hq
  have hk : (va_pl L f)[k]? = some (q, f q) := hk
  have hl := (List.getElem?_eq_some_iff.mp hk).1
  have h1 : (va_pl L f ++ [(q, e)])[k]? = some (q, f q) := by rw [List.getElem?_append_left hl]; exact hk
  have h2 : (va_pl L f ++ [(q, e)])[(va_pl L f).length]? = some (q, e) := by rw [List.getElem?_append_right (Nat.le_refl _), Nat.sub_self]; rfl
  have := h.1 _ _ _ _ h1 h2 rfl
  omega
section QN
variable {p : Program} {l : Launch} {e : Env} {R : Room} {s : State} {m : MethodId} {args : Array Value} {below : List Frame} {meth : Method} {c : Code} {H : Heap} {locs : List Loc} {cells slots : Nat} {Q : State → Prop}
variable {cc : ByteArray} {pc : Nat} {ls : Array Slot} {rest : List Value} {D : va_G} {A : Nat → Prop} {a : Nat} {tys : List (ClassId × FieldType)} {H0 : Heap} {L : List Nat} {f : Nat → va_E}
theorem Wd.push {q : Nat} {E : va_E} {H1 : Heap} (g1 : va_P D vwCl (va_pl L f ++ [(q, E)]) H1) (g2 : va_D A (va_pl L f ++ [(q, E)])) (g3 : va_S A H0 H1 locs) : q ∉ L ∧ Wd D A H0 (L ++ [q]) (va_up f q E) H1 locs := by
  have h := g2.fresh
  rw [va_pl_push h] at g1 g2
  exact ⟨h, g1, g2, g3⟩
theorem q_new (hx : p.tables.exec = Jvm.exec) (hb : c.code = cc) {own C : String} {T : u_T} {N ci index : Nat} {Ts : List Cond} (hts : ∀ w ∈ Ts, w.before args s = true) (hin : ∀ w ∈ u_ws C T N, w ∈ Ts) (ty : Nat → FieldType) (hty : ∀ k, k < N → parseFieldDescriptor (T k).2.2.1 = some (ty k)) (hown : s.vm.findClass own = some m.cls) (hcl : (Cond.classLink own index C).before args s = true) (hinst : (Cond.instantiable C N).before args s = true) (hini : (Cond.initialized C).before args s = true)
    (hK : va_K D vwCl tys s) (hw : Wd D A H0 L f H locs) (hA : ∀ q : Nat, H0.size ≤ q → A q) (hc : vwCl[ci]? = some (C, T, N)) {fs : List Value} (hfs : ∀ j, j < N → defaultValue (ty j) = vp_V fs j) (hcells : cells + 1 ≤ R.cells) (hslots : slots + N ≤ R.slots) (d : decode cc pc = .ok (.new index, 3))
    (kk : ∀ (q : Nat) (H1 : Heap), q ∉ L → Wd D A H0 (L ++ [q]) (va_up f q (.inr (ci, fs))) H1 locs → W p l e R s m args below meth c H1 locs (cells + 1) (slots + N) Q (F0 m (pc + 3) ls (.ref q :: rest))) : W p l e R s m args below meth c H locs cells slots Q (F0 m pc ls rest) := by
  refine va_new hx hb hts hin ty hty hown hcl hinst hini hK hw.1 hw.2.1 hw.2.2 hA hc hfs hcells hslots d (fun q H1 g1 g2 g3 => ?_)
  obtain ⟨h, hw1⟩ := Wd.push g1 g2 g3
  exact kk q H1 h hw1
theorem q_newI (hx : p.tables.exec = Jvm.exec) (hb : c.code = cc) {atype : ArrayType} {ty : FieldType} (harr : (Cond.arrayClass (newarray.typeOf atype)).before args s = true) (hty : newarray.typeOf atype = ty) (hdv : defaultValue ty = .int 0) (t0 : Nat) {cA : ClassId} (ht : tys[t0]? = some (cA, ty)) (hK : va_K D vwCl tys s) (hw : Wd D A H0 L f H locs) (hA : ∀ q : Nat, H0.size ≤ q → A q) {n : Nat} (hn : (n : Int) ≤ 2147483647) (hbytes : n * componentBytes ty ≤ 536870912) (hcells : cells + 1 ≤ R.cells) (hslots : slots + n ≤ R.slots) (d : decode cc pc = .ok (.newarray atype, 2))
    (kk : ∀ (q : Nat) (H1 : Heap), q ∉ L → Wd D A H0 (L ++ [q]) (va_up f q (.inl (cA, n, .inl (fun _ => 0)))) H1 locs → W p l e R s m args below meth c H1 locs (cells + 1) (slots + n) Q (F0 m (pc + 2) ls (.ref q :: rest))) : W p l e R s m args below meth c H locs cells slots Q (F0 m pc ls (.int (iI n) :: rest)) := by
  have rn : rg (n : Int) := ⟨by omega, hn⟩
  refine va_newa (a0 := (n, .inl (fun _ => 0))) hx hb harr hty hK hw.1 hw.2.1 hw.2.2 hA (fun cB => by rw [hdv]; rfl) (fun q => by have := (iI_lt rn rg_0).mp q; omega) (by rw [iI_nat rn]; rfl) hbytes hcells hslots d (fun q cB H1 k1 g1 g2 g3 => ?_)
  have e1 := (k1.2 tys.length (cB, ty) (by rw [List.getElem?_append_right (Nat.le_refl _), Nat.sub_self]; rfl)).2
  have e2 := (hK.2 t0 _ ht).2
  have e3 := e1.eq e2
  subst e3
  obtain ⟨h, hw1⟩ := Wd.push g1 g2 g3
  exact kk q H1 h hw1
theorem q_newR (hx : p.tables.exec = Jvm.exec) (hb : c.code = cc) {own C : String} {index : Nat} (hown : s.vm.findClass own = some m.cls) (hcl : (Cond.classLink own index C).before args s = true) (hover : va_AO C s) (t0 : Nat) {cA : ClassId} (ht : tys[t0]? = some (cA, .object C)) (hK : va_K D vwCl tys s) (hw : Wd D A H0 L f H locs) (hA : ∀ q : Nat, H0.size ≤ q → A q) {n : Nat} (hn : (n : Int) ≤ 2147483647) (hbytes : n * 4 ≤ 536870912) (hcells : cells + 1 ≤ R.cells) (hslots : slots + n ≤ R.slots) (d : decode cc pc = .ok (.anewarray index, 3))
    (kk : ∀ (q : Nat) (H1 : Heap), q ∉ L → Wd D A H0 (L ++ [q]) (va_up f q (.inl (cA, n, .inr (.inr (.inr (.inr (fun _ => none))))))) H1 locs → W p l e R s m args below meth c H1 locs (cells + 1) (slots + n) Q (F0 m (pc + 3) ls (.ref q :: rest))) : W p l e R s m args below meth c H locs cells slots Q (F0 m pc ls (.int (iI n) :: rest)) := by
  have rn : rg (n : Int) := ⟨by omega, hn⟩
  refine va_newq hx hb hown hcl hover hK hw.1 hw.2.1 hw.2.2 hA (fun q => by have := (iI_lt rn rg_0).mp q; omega) (by rw [iI_nat rn]; rfl) hbytes hcells hslots d (fun q cB H1 k1 g1 g2 g3 => ?_)
  have e1 := (k1.2 tys.length (cB, .object C) (by rw [List.getElem?_append_right (Nat.le_refl _), Nat.sub_self]; rfl)).2
  have e2 := (hK.2 t0 _ ht).2
  have e3 := e1.eq e2
  subst e3
  obtain ⟨h, hw1⟩ := Wd.push g1 g2 g3
  exact kk q H1 h hw1
/-- final fields, in a constructor -/
theorem q_putFi (hx : p.tables.exec = Jvm.exec) (hb : c.code = cc) {own ref C : String} {T : u_T} {N ci index : Nat} {Ts : List Cond} (hts : ∀ w ∈ Ts, w.before args s = true) (hin : ∀ w ∈ u_ws C T N, w ∈ Ts) (hown : s.vm.findClass own = some m.cls) (hK : va_K D vwCl tys s) (hw : Wd D A H0 L f H locs) (ha : a ∈ L) (ho : Ob f a ci) (hc : vwCl[ci]? = some (C, T, N)) (k : Nat) (hk : k < N) (hlink : (Cond.fieldLink own index ref (T k).2.1 (T k).2.2.1).before args s = true) (hsame : ∀ x, s.fieldFound? (T k).1 (T k).2.1 (T k).2.2.1 = some x → s.fieldFound? ref (T k).2.1 (T k).2.2.1 = some x) (ty0 : Nat → FieldType) (hty : ∀ k, k < N → parseFieldDescriptor (T k).2.2.1 = some (ty0 k)) (hnm : ∀ a, a < N → ∀ b, b < N → a ≠ b → (T a).2.1 ≠ (T b).2.1) (hfin : (T k).2.2.2 = true) (hin2 : meth.name = "<init>") (hdecl : (T k).1 = own) {ty : FieldType} (hd : parseFieldDescriptor (T k).2.2.1 = some ty) (hs : (sg ci)[k]? = some 0) (hi : ty = .int) {x : Int} (d : decode cc pc = .ok (.putfield index, 3))
    (kk : ∀ (H1 : Heap) (locs1 : List Loc), Wd D A H0 L (pU f a k (.int (iI x))) H1 locs1 → W p l e R s m args below meth c H1 locs1 cells slots Q (F0 m (pc + 3) ls rest)) : W p l e R s m args below meth c H locs cells slots Q (F0 m pc ls (.int (iI x) :: .ref a :: rest)) := by
  subst hi
  obtain ⟨fs, v, h1, h2, h3⟩ := ho.int hs
  obtain ⟨q0, hq⟩ := hw.at ha
  have hq' := hq
  rw [h1] at hq
  refine va_putF hx hb hts hin ty0 hty hnm hown hK hw.1 hw.2.1 hw.2.2 q0 hq hc k hk hlink hsame hfin hin2 hdecl hd rfl rfl (List.getElem?_eq_some_iff.mp h2).1 d (fun H1 locs1 g1 g2 g3 => ?_)
  rw [hw.put ha hq'] at g1 g2
  exact kk H1 locs1 (by rw [pU_eq h1]; exact ⟨g1, g2, g3⟩)
theorem q_putFr (hx : p.tables.exec = Jvm.exec) (hb : c.code = cc) {own ref C : String} {T : u_T} {N ci index : Nat} {Ts : List Cond} (hts : ∀ w ∈ Ts, w.before args s = true) (hin : ∀ w ∈ u_ws C T N, w ∈ Ts) (hown : s.vm.findClass own = some m.cls) (hK : va_K D vwCl tys s) (hw : Wd D A H0 L f H locs) (ha : a ∈ L) (ho : Ob f a ci) (hc : vwCl[ci]? = some (C, T, N)) (k : Nat) (hk : k < N) (hlink : (Cond.fieldLink own index ref (T k).2.1 (T k).2.2.1).before args s = true) (hsame : ∀ x, s.fieldFound? (T k).1 (T k).2.1 (T k).2.2.1 = some x → s.fieldFound? ref (T k).2.1 (T k).2.2.1 = some x) (ty0 : Nat → FieldType) (hty : ∀ k, k < N → parseFieldDescriptor (T k).2.2.1 = some (ty0 k)) (hnm : ∀ a, a < N → ∀ b, b < N → a ≠ b → (T a).2.1 ≠ (T b).2.1) (hfin : (T k).2.2.2 = true) (hin2 : meth.name = "<init>") (hdecl : (T k).1 = own) {ty : FieldType} (hd : parseFieldDescriptor (T k).2.2.1 = some ty) (hs : (sg ci)[k]? = some 2) {r : Nat} (hn : narrow ty (.ref r) = .ref r) (hfit : fits ty (.ref r) = true) (d : decode cc pc = .ok (.putfield index, 3))
    (kk : ∀ (H1 : Heap) (locs1 : List Loc), Wd D A H0 L (pU f a k (.ref r)) H1 locs1 → W p l e R s m args below meth c H1 locs1 cells slots Q (F0 m (pc + 3) ls rest)) : W p l e R s m args below meth c H locs cells slots Q (F0 m pc ls (.ref r :: .ref a :: rest)) := by
  obtain ⟨fs, h1, h2⟩ := ho.rfn hs
  obtain ⟨q0, hq⟩ := hw.at ha
  have hq' := hq
  rw [h1] at hq
  refine va_putF hx hb hts hin ty0 hty hnm hown hK hw.1 hw.2.1 hw.2.2 q0 hq hc k hk hlink hsame hfin hin2 hdecl hd hn hfit (List.getElem?_eq_some_iff.mp h2).1 d (fun H1 locs1 g1 g2 g3 => ?_)
  rw [hw.put ha hq'] at g1 g2
  exact kk H1 locs1 (by rw [pU_eq h1]; exact ⟨g1, g2, g3⟩)
end QN
/-! ===== what stays where cells are made ===== -/
def Al (cy : Cy) (L : List Nat) (f f1 : Nat → va_E) : Prop := (∀ a ∈ L, ∀ ci : Nat, Ob f a ci → Ob f1 a ci) ∧ (∀ a ∈ L, ∀ (cA : ClassId) (n : Nat), ArI f a cA n → ArI f1 a cA n) ∧ (∀ a ∈ L, ∀ (cA : ClassId) (n : Nat), ArR f a cA n → ArR f1 a cA n) ∧ (∀ a ∈ L, ∀ k : Nat, Ob f a 7 → fR f1 a k = fR f a k) ∧ (∀ a ∈ L, ∀ j : Int, ArR f a cy.2.2.2.2 2 → aR f1 a j = aR f a j)
theorem Al.refl (cy : Cy) (L : List Nat) (f : Nat → va_E) : Al cy L f f := ⟨fun _ _ _ h => h, fun _ _ _ _ h => h, fun _ _ _ _ h => h, fun _ _ _ _ => rfl, fun _ _ _ _ => rfl⟩
theorem Al.trans {cy : Cy} {L L' : List Nat} {f g h : Nat → va_E} (a : Al cy L f g) (hs : ∀ x ∈ L, x ∈ L') (b : Al cy L' g h) : Al cy L f h :=
  ⟨fun x m ci o => b.1 x (hs x m) ci (a.1 x m ci o), fun x m cA n o => b.2.1 x (hs x m) cA n (a.2.1 x m cA n o), fun x m cA n o => b.2.2.1 x (hs x m) cA n (a.2.2.1 x m cA n o), fun x m k o => (b.2.2.2.1 x (hs x m) k (a.1 x m 7 o)).trans (a.2.2.2.1 x m k o), fun x m j o => (b.2.2.2.2 x (hs x m) j (a.2.2.1 x m _ _ o)).trans (a.2.2.2.2 x m j o)⟩
theorem Ey.al {cy : Cy} {f g : Nat → va_E} (h : Ey cy f g) (L : List Nat) : Al cy L f g := ⟨fun a _ ci o => h.1.1 a ci o, fun a _ cA n o => h.1.2.1 a cA n o, fun a _ cA n o => h.1.2.2 a cA n o, fun a _ k o => h.2.1 a k o, fun a _ j o => h.2.2 a j o⟩
theorem Al.push {cy : Cy} {L : List Nat} {f : Nat → va_E} {q : Nat} {E : va_E} (h : q ∉ L) : Al cy L f (va_up f q E) := by
  have e : ∀ a ∈ L, va_up f q E a = f a := fun a m => va_up_ne _ _ (fun z => h (z ▸ m))
  refine ⟨fun a m ci o => ?_, fun a m cA n o => ?_, fun a m cA n o => ?_, fun a m k o => ?_, fun a m j o => ?_⟩
  · obtain ⟨fs, h1, h2⟩ := o; exact ⟨fs, by rw [e a m]; exact h1, h2⟩
  · obtain ⟨g, h1⟩ := o; exact ⟨g, by rw [e a m]; exact h1⟩
  · obtain ⟨g, h1⟩ := o; exact ⟨g, by rw [e a m]; exact h1⟩
  · unfold fR fV; rw [e a m]
  · unfold aR; rw [e a m]
theorem rcond.mem {cy : Cy} {M M' : List Nat} {f : Nat → va_E} (s : ∀ x ∈ M, x ∈ M') {ci k : Nat} {o : Option Nat} (h : rcond cy M f ci k o) : rcond cy M' f ci k o := by
  unfold rcond at h ⊢
  split at h
  all_goals first | trivial | (obtain ⟨r, h1, h2, h3⟩ := h; exact ⟨r, h1, s _ h2, h3⟩)
/-- a cell beside the good ones -/
theorem GI.push {cy : Cy} {M : List Nat} {f : Nat → va_E} {q : Nat} {E : va_E} (g : GI cy M f) (h : q ∉ M) : GI cy M (va_up f q E) := by
  have e : ∀ a ∈ M, va_up f q E a = f a := fun a m => va_up_ne _ _ (fun z => h (z ▸ m))
  have o1 : ∀ a ∈ M, ∀ ci, Ob f a ci → Ob (va_up f q E) a ci := fun a m ci o => by obtain ⟨fs, h1, h2⟩ := o; exact ⟨fs, by rw [e a m]; exact h1, h2⟩
  have o2 : ∀ a ∈ M, ∀ ci, Ob (va_up f q E) a ci → Ob f a ci := fun a m ci o => by obtain ⟨fs, h1, h2⟩ := o; rw [e a m] at h1; exact ⟨fs, h1, h2⟩
  have i1 : ∀ a ∈ M, ∀ cA n, ArI f a cA n → ArI (va_up f q E) a cA n := fun a m cA n o => by obtain ⟨fs, h1⟩ := o; exact ⟨fs, by rw [e a m]; exact h1⟩
  have r1 : ∀ a ∈ M, ∀ cA n, ArR f a cA n → ArR (va_up f q E) a cA n := fun a m cA n o => by obtain ⟨fs, h1⟩ := o; exact ⟨fs, by rw [e a m]; exact h1⟩
  have r2 : ∀ a ∈ M, ∀ cA n, ArR (va_up f q E) a cA n → ArR f a cA n := fun a m cA n o => by obtain ⟨fs, h1⟩ := o; rw [e a m] at h1; exact ⟨fs, h1⟩
  have vI : ∀ a ∈ M, ∀ k, fI (va_up f q E) a k = fI f a k := fun a m k => by unfold fI fV; rw [e a m]
  have vR : ∀ a ∈ M, ∀ k, fR (va_up f q E) a k = fR f a k := fun a m k => by unfold fR fV; rw [e a m]
  have vA : ∀ a ∈ M, ∀ j, aR (va_up f q E) a j = aR f a j := fun a m j => by unfold aR; rw [e a m]
  refine ⟨fun a m ci k o => ?_, fun a m ci k o => ?_, fun a m j o h0 h1 => ?_, fun a m j o h0 h1 => ?_⟩
  · rw [vI a m]; exact g.1 a m ci k (o2 a m ci o)
  · rw [vR a m]
    have := g.2.1 a m ci k (o2 a m ci o)
    unfold rcond at this ⊢
    split at this
    · obtain ⟨r, h1, h2, h3⟩ := this
      refine ⟨r, h1, h2, ?_⟩
      rcases h3 with h3 | h3 | h3 | h3
      · exact Or.inl (o1 _ h2 _ h3)
      · exact Or.inr (Or.inl (o1 _ h2 _ h3))
      · exact Or.inr (Or.inr (Or.inl (o1 _ h2 _ h3)))
      · exact Or.inr (Or.inr (Or.inr (o1 _ h2 _ h3)))
    · obtain ⟨r, h1, h2, h3⟩ := this; exact ⟨r, h1, h2, i1 _ h2 _ _ h3⟩
    · obtain ⟨r, h1, h2, h3⟩ := this; exact ⟨r, h1, h2, i1 _ h2 _ _ h3⟩
    · obtain ⟨r, h1, h2, h3⟩ := this; exact ⟨r, h1, h2, i1 _ h2 _ _ h3⟩
    · obtain ⟨r, h1, h2, h3⟩ := this; exact ⟨r, h1, h2, r1 _ h2 _ _ h3⟩
    · obtain ⟨r, h1, h2, h3⟩ := this; exact ⟨r, h1, h2, i1 _ h2 _ _ h3⟩
    · obtain ⟨r, h1, h2, h3⟩ := this; exact ⟨r, h1, h2, o1 _ h2 _ h3⟩
    · obtain ⟨r, h1, h2, h3⟩ := this; exact ⟨r, h1, h2, r1 _ h2 _ _ h3⟩
    · trivial
  · obtain ⟨b, h2, h3, h4⟩ := g.2.2.1 a m j (r2 a m _ _ o) h0 h1
    exact ⟨b, by rw [vA a m]; exact h2, h3, o1 _ h3 _ h4⟩
  · rw [vA a m]
    rcases g.2.2.2 a m j (r2 a m _ _ o) h0 h1 with h2 | ⟨b, h2, h3, h4⟩
    · exact Or.inl h2
    · exact Or.inr ⟨b, h2, h3, o1 _ h3 _ h4⟩
/-- a cell becomes one of the good ones -/
theorem GI.add {cy : Cy} {M : List Nat} {f : Nat → va_E} {q : Nat} (g : GI cy M f) (hf : ∀ ci k : Nat, Ob f q ci → fcond ci k (fI f q k)) (hr : ∀ ci k : Nat, Ob f q ci → rcond cy (M ++ [q]) f ci k (fR f q k)) (hB : ∀ j : Int, ArR f q cy.2.2.2.1 12 → 0 ≤ j → j < 12 → ∃ b, aR f q j = some b ∧ b ∈ M ++ [q] ∧ Ob f b 0) (hS : ∀ j : Int, ArR f q cy.2.2.2.2 2 → 0 ≤ j → j < 2 → aR f q j = none ∨ ∃ b, aR f q j = some b ∧ b ∈ M ++ [q] ∧ Ob f b 5) : GI cy (M ++ [q]) f := by
  have s : ∀ x ∈ M, x ∈ M ++ [q] := fun x h => List.mem_append_left _ h
  refine ⟨fun a m ci k o => ?_, fun a m ci k o => ?_, fun a m j o h0 h1 => ?_, fun a m j o h0 h1 => ?_⟩
  · rcases List.mem_append.mp m with m | m
    · exact g.1 a m ci k o
    · rw [List.mem_singleton.mp m] at o ⊢; exact hf ci k o
  · rcases List.mem_append.mp m with m | m
    · exact (g.2.1 a m ci k o).mem s
    · rw [List.mem_singleton.mp m] at o ⊢; exact hr ci k o
  · rcases List.mem_append.mp m with m | m
    · obtain ⟨b, h2, h3, h4⟩ := g.2.2.1 a m j o h0 h1; exact ⟨b, h2, s _ h3, h4⟩
    · rw [List.mem_singleton.mp m] at o ⊢; exact hB j o h0 h1
  · rcases List.mem_append.mp m with m | m
    · rcases g.2.2.2 a m j o h0 h1 with h2 | ⟨b, h2, h3, h4⟩
      · exact Or.inl h2
      · exact Or.inr ⟨b, h2, s _ h3, h4⟩
    · rw [List.mem_singleton.mp m] at o ⊢; exact hS j o h0 h1
