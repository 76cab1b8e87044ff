/-! ===== the pool: what lies at each address of L is what f says of it ===== -/
def fV (f : Nat → va_E) (a k : Nat) : Option Value := match f a with
  | .inr o => o.2[k]?
  | .inl _ => none
def fI (f : Nat → va_E) (a k : Nat) : Int := match fV f a k with
  | some (.int v) => v.toInt
  | _ => 0
def fR (f : Nat → va_E) (a k : Nat) : Option Nat := match fV f a k with
  | some (.ref r) => some r
  | _ => none
def tyv : Value → Nat
  | .int _ => 0
  | .long _ => 1
  | .null => 2
  | .ref _ => 2
  | .float _ => 3
  | .double _ => 4
  | .retAddr _ => 5
/-- the fields' kinds of each made thing: 0 an int, 1 a long, 2 a reference -/
def sg (ci : Nat) : List Nat := match ci with
  | 0 => [0, 0, 0, 2, 0, 0, 0, 0, 0, 0, 0, 2, 2, 0, 0]
  | 1 => [0, 0, 0, 0]
  | 2 => [0, 0, 0, 0, 0, 0, 0]
  | 3 => [0, 0, 0]
  | 4 => [2, 0, 0, 0, 0, 0, 0, 0, 0, 0]
  | 5 => [2, 0]
  | 6 => [0, 0, 0, 0, 0, 0]
  | 7 => [2, 0, 2, 2]
  | _ => [2, 2, 2, 2, 2, 0, 2, 2, 2, 0, 0, 2, 2, 2, 0, 0, 0, 0, 1, 0, 0, 2, 0, 2, 0, 2]
def Ob (f : Nat → va_E) (a ci : Nat) : Prop := ∃ fs : List Value, f a = .inr (ci, fs) ∧ fs.map tyv = sg ci
def ArI (f : Nat → va_E) (a : Nat) (cA : ClassId) (n : Nat) : Prop := ∃ g : Nat → Int32, f a = .inl (cA, n, .inl g)
def ArR (f : Nat → va_E) (a : Nat) (cA : ClassId) (n : Nat) : Prop := ∃ g : Nat → Option Nat, f a = .inl (cA, n, .inr (.inr (.inr (.inr g))))
def aI (f : Nat → va_E) (a : Nat) (j : Int) : Int := match f a with
  | .inl (_, _, .inl g) => (g j.toNat).toInt
  | _ => 0
def aR (f : Nat → va_E) (a : Nat) (j : Int) : Option Nat := match f a with
  | .inl (_, _, .inr (.inr (.inr (.inr g)))) => g j.toNat
  | _ => none
/-- a field is put -/
def pU (f : Nat → va_E) (a k : Nat) (v : Value) : Nat → va_E := match f a with
  | .inr o => va_up f a (.inr (o.1, o.2.set k v))
  | .inl _ => f
/-- an element of a row of ints is put -/
def aU (f : Nat → va_E) (a : Nat) (j : Int) (v : Int32) : Nat → va_E := match f a with
  | .inl (cA, n, .inl g) => va_up f a (.inl (cA, n, .inl (upd g j.toNat v)))
  | _ => f
/-- an element of a row of references is put -/
def rU (f : Nat → va_E) (a : Nat) (j : Int) (v : Option Nat) : Nat → va_E := match f a with
  | .inl (cA, n, .inr (.inr (.inr (.inr g)))) => va_up f a (.inl (cA, n, .inr (.inr (.inr (.inr (va_up g j.toNat v))))))
  | _ => f
/-- the world: the heap holds the pool, its addresses are apart and in A, nothing else has changed since H0 -/
def Wd (D : va_G) (A : Nat → Prop) (H0 : Heap) (L : List Nat) (f : Nat → va_E) (H : Heap) (locs : List Loc) : Prop :=
  va_P D vwCl (va_pl L f) H ∧ va_D A (va_pl L f) ∧ va_S A H0 H locs
theorem Ob.val {f : Nat → va_E} {a ci k ty : Nat} (h : Ob f a ci) (hk : (sg ci)[k]? = some ty) : ∃ (fs : List Value) (v : Value), f a = .inr (ci, fs) ∧ fs.map tyv = sg ci ∧ fs[k]? = some v ∧ tyv v = ty := by
  obtain ⟨fs, h1, h2⟩ := h
  rw [← h2, List.getElem?_map] at hk
  cases hv : fs[k]? with
  | none => rw [hv] at hk; cases hk
  | some v => rw [hv] at hk; exact ⟨fs, v, h1, h2, hv, Option.some.inj hk⟩
theorem tyv_int {v : Value} (h : tyv v = 0) : ∃ x : Int32, v = .int x := by
  cases v <;> simp [tyv] at h
  exact ⟨_, rfl⟩
theorem tyv_long {v : Value} (h : tyv v = 1) : ∃ x : Int64, v = .long x := by
  cases v <;> simp [tyv] at h
  exact ⟨_, rfl⟩
theorem tyv_ref {v : Value} (h : tyv v = 2) : v = .null ∨ ∃ r : Nat, v = .ref r := by
  cases v <;> simp [tyv] at h
  · exact Or.inl rfl
  · exact Or.inr ⟨_, rfl⟩
theorem fV_eq {f : Nat → va_E} {a ci k : Nat} {fs : List Value} (h : f a = .inr (ci, fs)) : fV f a k = fs[k]? := by
  unfold fV; rw [h]
theorem Ob.int {f : Nat → va_E} {a ci k : Nat} (h : Ob f a ci) (hk : (sg ci)[k]? = some 0) : ∃ (fs : List Value) (v : Int32), f a = .inr (ci, fs) ∧ fs[k]? = some (.int v) ∧ fI f a k = v.toInt := by
  obtain ⟨fs, v, h1, h2, h3, h4⟩ := h.val hk
  obtain ⟨x, rfl⟩ := tyv_int h4
  exact ⟨fs, x, h1, h3, by unfold fI; rw [fV_eq h1, h3]⟩
theorem Ob.ref {f : Nat → va_E} {a ci k r : Nat} (h : Ob f a ci) (hk : (sg ci)[k]? = some 2) (hr : fR f a k = some r) : ∃ fs : List Value, f a = .inr (ci, fs) ∧ fs[k]? = some (.ref r) := by
  obtain ⟨fs, v, h1, h2, h3, h4⟩ := h.val hk
  refine ⟨fs, h1, ?_⟩
  unfold fR at hr
  rw [fV_eq h1, h3] at hr
  rcases tyv_ref h4 with rfl | ⟨x, rfl⟩
  · cases hr
  · cases hr; exact h3
theorem Ob.rfn {f : Nat → va_E} {a ci k : Nat} (h : Ob f a ci) (hk : (sg ci)[k]? = some 2) : ∃ fs : List Value, f a = .inr (ci, fs) ∧ fs[k]? = some (va_rf (fR f a k)) := by
  obtain ⟨fs, v, h1, h2, h3, h4⟩ := h.val hk
  refine ⟨fs, h1, ?_⟩
  unfold fR
  rw [fV_eq h1, h3]
  rcases tyv_ref h4 with rfl | ⟨x, rfl⟩ <;> rfl
theorem pU_eq {f : Nat → va_E} {a ci k : Nat} {v : Value} {fs : List Value} (h : f a = .inr (ci, fs)) : pU f a k v = va_up f a (.inr (ci, fs.set k v)) := by
  unfold pU; rw [h]
theorem aU_eq {f : Nat → va_E} {a n : Nat} {cA : ClassId} {g : Nat → Int32} {j : Int} {v : Int32} (h : f a = .inl (cA, n, .inl g)) : aU f a j v = va_up f a (.inl (cA, n, .inl (upd g j.toNat v))) := by
  unfold aU; rw [h]
theorem rU_eq {f : Nat → va_E} {a n : Nat} {cA : ClassId} {g : Nat → Option Nat} {j : Int} {v : Option Nat} (h : f a = .inl (cA, n, .inr (.inr (.inr (.inr g))))) : rU f a j v = va_up f a (.inl (cA, n, .inr (.inr (.inr (.inr (va_up g j.toNat v)))))) := by
  unfold rU; rw [h]
theorem fV_up_ne {f : Nat → va_E} {a b k : Nat} {e : va_E} (h : b ≠ a) : fV (va_up f a e) b k = fV f b k := by
  unfold fV; rw [va_up_ne _ _ h]
theorem pU_ne {f : Nat → va_E} {a b k : Nat} {v : Value} (h : b ≠ a) : pU f a k v b = f b := by
  unfold pU
  cases f a with
  | inr o => exact va_up_ne _ _ h
  | inl o => rfl
theorem aU_ne {f : Nat → va_E} {a b : Nat} {j : Int} {v : Int32} (h : b ≠ a) : aU f a j v b = f b := by
  unfold aU
  rcases f a with ⟨cA, n, g | g⟩ | o
  · exact va_up_ne _ _ h
  · rfl
  · rfl
theorem rU_ne {f : Nat → va_E} {a b : Nat} {j : Int} {v : Option Nat} (h : b ≠ a) : rU f a j v b = f b := by
  unfold rU
  rcases f a with ⟨cA, n, g | g | g | g | g⟩ | o
  · rfl
  · rfl
  · rfl
  · rfl
  · exact va_up_ne _ _ h
  · rfl
theorem fV_pU {f : Nat → va_E} {a b k j : Nat} {v : Value} (h : b ≠ a ∨ j ≠ k) : fV (pU f a k v) b j = fV f b j := by
  by_cases hb : b = a
  · subst hb
    have hj : j ≠ k := h.resolve_left (fun q => q rfl)
    unfold fV
    cases hf : f b with
    | inl o => unfold pU; rw [hf]; show (match f b with | .inr o => o.2[j]? | .inl _ => none) = _; rw [hf]
    | inr o =>
      have : pU f b k v b = .inr (o.1, o.2.set k v) := by unfold pU; rw [hf]; exact va_up_self _ _ _
      rw [this]
      exact List.getElem?_set_ne (Ne.symm hj)
  · unfold fV; rw [pU_ne hb]
theorem fI_pU {f : Nat → va_E} {a b k j : Nat} {v : Value} (h : b ≠ a ∨ j ≠ k) : fI (pU f a k v) b j = fI f b j := by unfold fI; rw [fV_pU h]
theorem fR_pU {f : Nat → va_E} {a b k j : Nat} {v : Value} (h : b ≠ a ∨ j ≠ k) : fR (pU f a k v) b j = fR f b j := by unfold fR; rw [fV_pU h]
theorem fV_pU_self {f : Nat → va_E} {a k ci ty : Nat} {v : Value} (h : Ob f a ci) (hk : (sg ci)[k]? = some ty) : fV (pU f a k v) a k = some v := by
  obtain ⟨fs, w, h1, h2, h3, h4⟩ := h.val hk
  rw [pU_eq h1]
  unfold fV
  rw [va_up_self]
  exact List.getElem?_set_self (List.getElem?_eq_some_iff.mp h3).1
theorem fI_pU_self {f : Nat → va_E} {a k ci ty : Nat} {x : Int} (h : Ob f a ci) (hk : (sg ci)[k]? = some ty) (hx : rg x) : fI (pU f a k (.int (iI x))) a k = x := by
  unfold fI; rw [fV_pU_self h hk]; exact iI_toInt hx
theorem fR_pU_self {f : Nat → va_E} {a k ci ty r : Nat} (h : Ob f a ci) (hk : (sg ci)[k]? = some ty) : fR (pU f a k (.ref r)) a k = some r := by
  unfold fR; rw [fV_pU_self h hk]
theorem Ob_pU {f : Nat → va_E} {a b k ci cj ty : Nat} {v : Value} (h : Ob f a ci) (hk : (sg ci)[k]? = some ty) (hv : tyv v = ty) (hb : Ob f b cj) : Ob (pU f a k v) b cj := by
  by_cases e : b = a
  · subst e
    obtain ⟨fs, w, h1, h2, h3, h4⟩ := h.val hk
    obtain ⟨fs', h1', h2'⟩ := hb
    rw [h1] at h1'
    cases h1'
    refine ⟨fs.set k v, by rw [pU_eq h1]; exact va_up_self _ _ _, ?_⟩
    rw [← h2]
    apply List.ext_getElem?
    intro j
    rw [List.getElem?_map, List.getElem?_map]
    by_cases ej : j = k
    · subst ej
      rw [List.getElem?_set_self (List.getElem?_eq_some_iff.mp h3).1, h3]
      simp [hv, h4]
    · rw [List.getElem?_set_ne (Ne.symm ej)]
  · obtain ⟨fs', h1', h2'⟩ := hb
    exact ⟨fs', by rw [pU_ne e]; exact h1', h2'⟩
theorem ArI_pU {f : Nat → va_E} {a b k n : Nat} {cA : ClassId} {v : Value} (hb : ArI f b cA n) : ArI (pU f a k v) b cA n := by
  obtain ⟨g, hg⟩ := hb
  by_cases e : b = a
  · subst e; exact ⟨g, by unfold pU; rw [hg]; exact hg⟩
  · exact ⟨g, by rw [pU_ne e]; exact hg⟩
theorem ArR_pU {f : Nat → va_E} {a b k n : Nat} {cA : ClassId} {v : Value} (hb : ArR f b cA n) : ArR (pU f a k v) b cA n := by
  obtain ⟨g, hg⟩ := hb
  by_cases e : b = a
  · subst e; exact ⟨g, by unfold pU; rw [hg]; exact hg⟩
  · exact ⟨g, by rw [pU_ne e]; exact hg⟩
theorem aI_pU {f : Nat → va_E} {a b k ci : Nat} {v : Value} {j : Int} (h : Ob f a ci) : aI (pU f a k v) b j = aI f b j := by
  by_cases e : b = a
  · subst e
    obtain ⟨fs, h1, -⟩ := h
    unfold aI
    rw [pU_eq h1, va_up_self, h1]
  · unfold aI; rw [pU_ne e]
theorem aR_pU {f : Nat → va_E} {a b k ci : Nat} {v : Value} {j : Int} (h : Ob f a ci) : aR (pU f a k v) b j = aR f b j := by
  by_cases e : b = a
  · subst e
    obtain ⟨fs, h1, -⟩ := h
    unfold aR
    rw [pU_eq h1, va_up_self, h1]
  · unfold aR; rw [pU_ne e]
theorem fV_aU {f : Nat → va_E} {a b k n : Nat} {cA : ClassId} {j : Int} {v : Int32} (h : ArI f a cA n) : fV (aU f a j v) b k = fV f b k := by
  by_cases e : b = a
  · subst e
    obtain ⟨g, hg⟩ := h
    unfold fV
    rw [aU_eq hg, va_up_self, hg]
  · unfold fV; rw [aU_ne e]
theorem fI_aU {f : Nat → va_E} {a b k n : Nat} {cA : ClassId} {j : Int} {v : Int32} (h : ArI f a cA n) : fI (aU f a j v) b k = fI f b k := by unfold fI; rw [fV_aU h]
theorem fR_aU {f : Nat → va_E} {a b k n : Nat} {cA : ClassId} {j : Int} {v : Int32} (h : ArI f a cA n) : fR (aU f a j v) b k = fR f b k := by unfold fR; rw [fV_aU h]
theorem Ob_aU {f : Nat → va_E} {a b ci n : Nat} {cA : ClassId} {j : Int} {v : Int32} (h : ArI f a cA n) (hb : Ob f b ci) : Ob (aU f a j v) b ci := by
  obtain ⟨fs, h1, h2⟩ := hb
  by_cases e : b = a
  · subst e; obtain ⟨g, hg⟩ := h; rw [hg] at h1; cases h1
  · exact ⟨fs, by rw [aU_ne e]; exact h1, h2⟩
theorem ArI_aU {f : Nat → va_E} {a b n n' : Nat} {cA cB : ClassId} {j : Int} {v : Int32} (h : ArI f a cA n) (hb : ArI f b cB n') : ArI (aU f a j v) b cB n' := by
  obtain ⟨g, hg⟩ := hb
  by_cases e : b = a
  · subst e; exact ⟨_, by rw [aU_eq hg]; exact va_up_self _ _ _⟩
  · exact ⟨g, by rw [aU_ne e]; exact hg⟩
theorem ArR_aU {f : Nat → va_E} {a b n n' : Nat} {cA cB : ClassId} {j : Int} {v : Int32} (h : ArI f a cA n) (hb : ArR f b cB n') : ArR (aU f a j v) b cB n' := by
  obtain ⟨g, hg⟩ := hb
  by_cases e : b = a
  · subst e; obtain ⟨g', hg'⟩ := h; rw [hg] at hg'; cases hg'
  · exact ⟨g, by rw [aU_ne e]; exact hg⟩
theorem aI_aU_ne {f : Nat → va_E} {a b : Nat} {j i : Int} {v : Int32} (h : b ≠ a) : aI (aU f a j v) b i = aI f b i := by unfold aI; rw [aU_ne h]
theorem aI_aU_nj {f : Nat → va_E} {a n : Nat} {cA : ClassId} {j i : Int} {v : Int32} (h : ArI f a cA n) (hj : 0 ≤ j) (hi : 0 ≤ i) (hij : i ≠ j) : aI (aU f a j v) a i = aI f a i := by
  obtain ⟨g, hg⟩ := h
  unfold aI
  rw [aU_eq hg, va_up_self, hg]
  show (upd g j.toNat v i.toNat).toInt = _
  have : i.toNat ≠ j.toNat := by omega
  simp [upd, this]
theorem aI_aU_self {f : Nat → va_E} {a n : Nat} {cA : ClassId} {j x : Int} (h : ArI f a cA n) (hx : rg x) : aI (aU f a j (iI x)) a j = x := by
  obtain ⟨g, hg⟩ := h
  unfold aI
  rw [aU_eq hg, va_up_self]
  show (upd g j.toNat (iI x) j.toNat).toInt = x
  simp [upd, iI_toInt hx]
theorem ArI.rng {f : Nat → va_E} {a n : Nat} {cA : ClassId} (h : ArI f a cA n) (j : Int) : rg (aI f a j) := by
  obtain ⟨g, hg⟩ := h
  unfold aI
  rw [hg]
  exact iI_rg _
theorem fI_rg (f : Nat → va_E) (a k : Nat) : rg (fI f a k) := by
  unfold fI
  split
  · exact iI_rg _
  · exact rg_0
theorem iI_nat {i : Int} (h : rg i) : (iI i).toNatClampNeg = i.toNat := by
  show (iI i).toInt.toNat = _
  rw [iI_toInt h]
theorem iI_in {i : Int} {n : Nat} (h : rg i) (h0 : 0 ≤ i) (h1 : i < n) : vp_in (iI i) n := by
  intro q
  rcases q with q | q
  · have := (iI_lt h rg_0).mp q
    omega
  · rw [iI_nat h] at q
    omega

section QP
variable {p : Program} {l : Launch} {e : Env} {R : Room} {s : State} {m : MethodId} {args : Array Value} {below : List Frame} {meth : Method} {c : Code} {H : Heap} {locs : List Loc} {cells slots : Nat} {Q : State → Prop}
variable {cc : ByteArray} {pc : Nat} {ls : Array Slot} {rest : List Value} {D : va_G} {A : Nat → Prop} {a : Nat} {tys : List (ClassId × FieldType)} {H0 : Heap} {L : List Nat} {f : Nat → va_E}
theorem Wd.at (hw : Wd D A H0 L f H locs) (ha : a ∈ L) : ∃ k : Nat, (va_pl L f)[k]? = some (a, f a) := va_pl_get (X := []) ha
theorem Wd.put (hw : Wd D A H0 L f H locs) (ha : a ∈ L) {k : Nat} (hk : (va_pl L f)[k]? = some (a, f a)) (e : va_E) : (va_pl L f).set k (a, e) = va_pl L (va_up f a e) := va_pl_set (X := []) hw.2.1 ha hk
theorem q_geti (hx : p.tables.exec = Jvm.exec) (hb : c.code = cc) {own ref C : String} {T : u_T} {N ci index : Nat} {Ts : List Cond} (hts : ∀ w ∈ Ts, w.before args s = true) (hin : ∀ w ∈ u_ws C T N, w ∈ Ts) (hown : s.vm.findClass own = some m.cls) (hK : va_K D vwCl tys s) (hw : Wd D A H0 L f H locs) (ha : a ∈ L) (ho : Ob f a ci) (hc : vwCl[ci]? = some (C, T, N)) (k : Nat) (hk : k < N) (hlink : (Cond.fieldLink own index ref (T k).2.1 (T k).2.2.1).before args s = true) (hsame : ∀ x, s.fieldFound? (T k).1 (T k).2.1 (T k).2.2.1 = some x → s.fieldFound? ref (T k).2.1 (T k).2.2.1 = some x) (hs : (sg ci)[k]? = some 0) (d : decode cc pc = .ok (.getfield index, 3))
    (kk : ∀ z : Int, -2147483648 ≤ z → z ≤ 2147483647 → z = fI f a k → W p l e R s m args below meth c H locs cells slots Q (F0 m (pc + 3) ls (.int (iI z) :: rest))) : W p l e R s m args below meth c H locs cells slots Q (F0 m pc ls (.ref a :: rest)) := by
  obtain ⟨fs, v, h1, h2, h3⟩ := ho.int hs
  obtain ⟨q0, hq⟩ := hw.at ha
  rw [h1] at hq
  refine va_get hx hb hts hin hown hK hw.1 q0 hq hc k hk hlink hsame h2 d ?_
  exact q_num fun z z1 z2 z3 => kk z z1 z2 (z3.trans h3.symm)
theorem q_getr (hx : p.tables.exec = Jvm.exec) (hb : c.code = cc) {own ref C : String} {T : u_T} {N ci index : Nat} {Ts : List Cond} (hts : ∀ w ∈ Ts, w.before args s = true) (hin : ∀ w ∈ u_ws C T N, w ∈ Ts) (hown : s.vm.findClass own = some m.cls) (hK : va_K D vwCl tys s) (hw : Wd D A H0 L f H locs) (ha : a ∈ L) (ho : Ob f a ci) (hc : vwCl[ci]? = some (C, T, N)) (k : Nat) (hk : k < N) (hlink : (Cond.fieldLink own index ref (T k).2.1 (T k).2.2.1).before args s = true) (hsame : ∀ x, s.fieldFound? (T k).1 (T k).2.1 (T k).2.2.1 = some x → s.fieldFound? ref (T k).2.1 (T k).2.2.1 = some x) {r : Nat} (hs : (sg ci)[k]? = some 2) (hr : fR f a k = some r) (d : decode cc pc = .ok (.getfield index, 3))
    (kk : W p l e R s m args below meth c H locs cells slots Q (F0 m (pc + 3) ls (.ref r :: rest))) : W p l e R s m args below meth c H locs cells slots Q (F0 m pc ls (.ref a :: rest)) := by
  obtain ⟨fs, h1, h2⟩ := ho.ref hs hr
  obtain ⟨q0, hq⟩ := hw.at ha
  rw [h1] at hq
  exact va_get hx hb hts hin hown hK hw.1 q0 hq hc k hk hlink hsame h2 d kk
theorem q_puti (hx : p.tables.exec = Jvm.exec) (hb : c.code = cc) {own ref C : String} {T : u_T} {N ci index : Nat} {Ts : List Cond} (hts : ∀ w ∈ Ts, w.before args s = true) (hin : ∀ w ∈ u_ws C T N, w ∈ Ts) (hown : s.vm.findClass own = some m.cls) (hK : va_K D vwCl tys s) (hw : Wd D A H0 L f H locs) (ha : a ∈ L) (ho : Ob f a ci) (hc : vwCl[ci]? = some (C, T, N)) (k : Nat) (hk : k < N) (hlink : (Cond.fieldLink own index ref (T k).2.1 (T k).2.2.1).before args s = true) (hsame : ∀ x, s.fieldFound? (T k).1 (T k).2.1 (T k).2.2.1 = some x → s.fieldFound? ref (T k).2.1 (T k).2.2.1 = some x) (ty0 : Nat → FieldType) (hty : ∀ k, k < N → parseFieldDescriptor (T k).2.2.1 = some (ty0 k)) (hnm : ∀ a, a < N → ∀ b, b < N → a ≠ b → (T a).2.1 ≠ (T b).2.1) (hfin : (T k).2.2.2 = false) {ty : FieldType} (hd : parseFieldDescriptor (T k).2.2.1 = some ty) (hs : (sg ci)[k]? = some 0) (hi : ty = .int) {x : Int} (d : decode cc pc = .ok (.putfield index, 3))
    (kk : ∀ (H1 : Heap) (locs1 : List Loc), Wd D A H0 L (pU f a k (.int (iI x))) H1 locs1 → W p l e R s m args below meth c H1 locs1 cells slots Q (F0 m (pc + 3) ls rest)) : W p l e R s m args below meth c H locs cells slots Q (F0 m pc ls (.int (iI x) :: .ref a :: rest)) := by
  subst hi
  obtain ⟨fs, v, h1, h2, h3⟩ := ho.int hs
  obtain ⟨q0, hq⟩ := hw.at ha
  have hq' := hq
  rw [h1] at hq
  refine va_put hx hb hts hin ty0 hty hnm hown hK hw.1 hw.2.1 hw.2.2 q0 hq hc k hk hlink hsame hfin hd rfl rfl (List.getElem?_eq_some_iff.mp h2).1 d (fun H1 locs1 g1 g2 g3 => ?_)
  rw [hw.put ha hq'] at g1 g2
  exact kk H1 locs1 (by rw [pU_eq h1]; exact ⟨g1, g2, g3⟩)
theorem q_putr (hx : p.tables.exec = Jvm.exec) (hb : c.code = cc) {own ref C : String} {T : u_T} {N ci index : Nat} {Ts : List Cond} (hts : ∀ w ∈ Ts, w.before args s = true) (hin : ∀ w ∈ u_ws C T N, w ∈ Ts) (hown : s.vm.findClass own = some m.cls) (hK : va_K D vwCl tys s) (hw : Wd D A H0 L f H locs) (ha : a ∈ L) (ho : Ob f a ci) (hc : vwCl[ci]? = some (C, T, N)) (k : Nat) (hk : k < N) (hlink : (Cond.fieldLink own index ref (T k).2.1 (T k).2.2.1).before args s = true) (hsame : ∀ x, s.fieldFound? (T k).1 (T k).2.1 (T k).2.2.1 = some x → s.fieldFound? ref (T k).2.1 (T k).2.2.1 = some x) (ty0 : Nat → FieldType) (hty : ∀ k, k < N → parseFieldDescriptor (T k).2.2.1 = some (ty0 k)) (hnm : ∀ a, a < N → ∀ b, b < N → a ≠ b → (T a).2.1 ≠ (T b).2.1) (hfin : (T k).2.2.2 = false) {ty : FieldType} (hd : parseFieldDescriptor (T k).2.2.1 = some ty) (hs : (sg ci)[k]? = some 2) {r : Nat} (hn : narrow ty (.ref r) = .ref r) (hfit : fits ty (.ref r) = true) (d : decode cc pc = .ok (.putfield index, 3))
    (kk : ∀ (H1 : Heap) (locs1 : List Loc), Wd D A H0 L (pU f a k (.ref r)) H1 locs1 → W p l e R s m args below meth c H1 locs1 cells slots Q (F0 m (pc + 3) ls rest)) : W p l e R s m args below meth c H locs cells slots Q (F0 m pc ls (.ref r :: .ref a :: rest)) := by
  obtain ⟨fs, h1, h2⟩ := ho.rfn hs
  obtain ⟨q0, hq⟩ := hw.at ha
  have hq' := hq
  rw [h1] at hq
  refine va_put hx hb hts hin ty0 hty hnm hown hK hw.1 hw.2.1 hw.2.2 q0 hq hc k hk hlink hsame hfin hd hn hfit (List.getElem?_eq_some_iff.mp h2).1 d (fun H1 locs1 g1 g2 g3 => ?_)
  rw [hw.put ha hq'] at g1 g2
  exact kk H1 locs1 (by rw [pU_eq h1]; exact ⟨g1, g2, g3⟩)
theorem q_getiN (hx : p.tables.exec = Jvm.exec) (hb : c.code = cc) {own ref C host : String} {T : u_T} {N ci index : Nat} {Ts : List Cond} (hts : ∀ w ∈ Ts, w.before args s = true) (hin : ∀ w ∈ u_ws C T N, w ∈ Ts) (hown : s.vm.findClass own = some m.cls) (hK : va_K D vwCl tys s) (hw : Wd D A H0 L f H locs) (ha : a ∈ L) (ho : Ob f a ci) (hc : vwCl[ci]? = some (C, T, N)) (k : Nat) (hk : k < N) (hlink : (Cond.fieldLinkNest own index ref (T k).2.1 (T k).2.2.1 host).before args s = true) (hsame : ∀ x, s.fieldFound? (T k).1 (T k).2.1 (T k).2.2.1 = some x → s.fieldFound? ref (T k).2.1 (T k).2.2.1 = some x) (hs : (sg ci)[k]? = some 0) (d : decode cc pc = .ok (.getfield index, 3))
    (kk : ∀ z : Int, -2147483648 ≤ z → z ≤ 2147483647 → z = fI f a k → W p l e R s m args below meth c H locs cells slots Q (F0 m (pc + 3) ls (.int (iI z) :: rest))) : W p l e R s m args below meth c H locs cells slots Q (F0 m pc ls (.ref a :: rest)) := by
  obtain ⟨fs, v, h1, h2, h3⟩ := ho.int hs
  obtain ⟨q0, hq⟩ := hw.at ha
  rw [h1] at hq
  refine va_getN hx hb hts hin hown hK hw.1 q0 hq hc k hk hlink hsame h2 d ?_
  exact q_num fun z z1 z2 z3 => kk z z1 z2 (z3.trans h3.symm)
theorem q_getrN (hx : p.tables.exec = Jvm.exec) (hb : c.code = cc) {own ref C host : String} {T : u_T} {N ci index : Nat} {Ts : List Cond} (hts : ∀ w ∈ Ts, w.before args s = true) (hin : ∀ w ∈ u_ws C T N, w ∈ Ts) (hown : s.vm.findClass own = some m.cls) (hK : va_K D vwCl tys s) (hw : Wd D A H0 L f H locs) (ha : a ∈ L) (ho : Ob f a ci) (hc : vwCl[ci]? = some (C, T, N)) (k : Nat) (hk : k < N) (hlink : (Cond.fieldLinkNest own index ref (T k).2.1 (T k).2.2.1 host).before args s = true) (hsame : ∀ x, s.fieldFound? (T k).1 (T k).2.1 (T k).2.2.1 = some x → s.fieldFound? ref (T k).2.1 (T k).2.2.1 = some x) {r : Nat} (hs : (sg ci)[k]? = some 2) (hr : fR f a k = some r) (d : decode cc pc = .ok (.getfield index, 3))
    (kk : W p l e R s m args below meth c H locs cells slots Q (F0 m (pc + 3) ls (.ref r :: rest))) : W p l e R s m args below meth c H locs cells slots Q (F0 m pc ls (.ref a :: rest)) := by
  obtain ⟨fs, h1, h2⟩ := ho.ref hs hr
  obtain ⟨q0, hq⟩ := hw.at ha
  rw [h1] at hq
  exact va_getN hx hb hts hin hown hK hw.1 q0 hq hc k hk hlink hsame h2 d kk
theorem q_putiN (hx : p.tables.exec = Jvm.exec) (hb : c.code = cc) {own ref C host : String} {T : u_T} {N ci index : Nat} {Ts : List Cond} (hts : ∀ w ∈ Ts, w.before args s = true) (hin : ∀ w ∈ u_ws C T N, w ∈ Ts) (hown : s.vm.findClass own = some m.cls) (hK : va_K D vwCl tys s) (hw : Wd D A H0 L f H locs) (ha : a ∈ L) (ho : Ob f a ci) (hc : vwCl[ci]? = some (C, T, N)) (k : Nat) (hk : k < N) (hlink : (Cond.fieldLinkNest own index ref (T k).2.1 (T k).2.2.1 host).before args s = true) (hsame : ∀ x, s.fieldFound? (T k).1 (T k).2.1 (T k).2.2.1 = some x → s.fieldFound? ref (T k).2.1 (T k).2.2.1 = some x) (ty0 : Nat → FieldType) (hty : ∀ k, k < N → parseFieldDescriptor (T k).2.2.1 = some (ty0 k)) (hnm : ∀ a, a < N → ∀ b, b < N → a ≠ b → (T a).2.1 ≠ (T b).2.1) (hfin : (T k).2.2.2 = false) {ty : FieldType} (hd : parseFieldDescriptor (T k).2.2.1 = some ty) (hs : (sg ci)[k]? = some 0) (hi : ty = .int) {x : Int} (d : decode cc pc = .ok (.putfield index, 3))
    (kk : ∀ (H1 : Heap) (locs1 : List Loc), Wd D A H0 L (pU f a k (.int (iI x))) H1 locs1 → W p l e R s m args below meth c H1 locs1 cells slots Q (F0 m (pc + 3) ls rest)) : W p l e R s m args below meth c H locs cells slots Q (F0 m pc ls (.int (iI x) :: .ref a :: rest)) := by
  subst hi
  obtain ⟨fs, v, h1, h2, h3⟩ := ho.int hs
  obtain ⟨q0, hq⟩ := hw.at ha
  have hq' := hq
  rw [h1] at hq
  refine va_putN hx hb hts hin ty0 hty hnm hown hK hw.1 hw.2.1 hw.2.2 q0 hq hc k hk hlink hsame hfin hd rfl rfl (List.getElem?_eq_some_iff.mp h2).1 d (fun H1 locs1 g1 g2 g3 => ?_)
  rw [hw.put ha hq'] at g1 g2
  exact kk H1 locs1 (by rw [pU_eq h1]; exact ⟨g1, g2, g3⟩)
theorem q_putrN (hx : p.tables.exec = Jvm.exec) (hb : c.code = cc) {own ref C host : String} {T : u_T} {N ci index : Nat} {Ts : List Cond} (hts : ∀ w ∈ Ts, w.before args s = true) (hin : ∀ w ∈ u_ws C T N, w ∈ Ts) (hown : s.vm.findClass own = some m.cls) (hK : va_K D vwCl tys s) (hw : Wd D A H0 L f H locs) (ha : a ∈ L) (ho : Ob f a ci) (hc : vwCl[ci]? = some (C, T, N)) (k : Nat) (hk : k < N) (hlink : (Cond.fieldLinkNest own index ref (T k).2.1 (T k).2.2.1 host).before args s = true) (hsame : ∀ x, s.fieldFound? (T k).1 (T k).2.1 (T k).2.2.1 = some x → s.fieldFound? ref (T k).2.1 (T k).2.2.1 = some x) (ty0 : Nat → FieldType) (hty : ∀ k, k < N → parseFieldDescriptor (T k).2.2.1 = some (ty0 k)) (hnm : ∀ a, a < N → ∀ b, b < N → a ≠ b → (T a).2.1 ≠ (T b).2.1) (hfin : (T k).2.2.2 = false) {ty : FieldType} (hd : parseFieldDescriptor (T k).2.2.1 = some ty) (hs : (sg ci)[k]? = some 2) {r : Nat} (hn : narrow ty (.ref r) = .ref r) (hfit : fits ty (.ref r) = true) (d : decode cc pc = .ok (.putfield index, 3))
    (kk : ∀ (H1 : Heap) (locs1 : List Loc), Wd D A H0 L (pU f a k (.ref r)) H1 locs1 → W p l e R s m args below meth c H1 locs1 cells slots Q (F0 m (pc + 3) ls rest)) : W p l e R s m args below meth c H locs cells slots Q (F0 m pc ls (.ref r :: .ref a :: rest)) := by
  obtain ⟨fs, h1, h2⟩ := ho.rfn hs
  obtain ⟨q0, hq⟩ := hw.at ha
  have hq' := hq
  rw [h1] at hq
  refine va_putN hx hb hts hin ty0 hty hnm hown hK hw.1 hw.2.1 hw.2.2 q0 hq hc k hk hlink hsame hfin hd hn hfit (List.getElem?_eq_some_iff.mp h2).1 d (fun H1 locs1 g1 g2 g3 => ?_)
  rw [hw.put ha hq'] at g1 g2
  exact kk H1 locs1 (by rw [pU_eq h1]; exact ⟨g1, g2, g3⟩)
theorem q_iald (hx : p.tables.exec = Jvm.exec) (hb : c.code = cc) (hK : va_K D vwCl tys s) (hw : Wd D A H0 L f H locs) (ha : a ∈ L) (t0 : Nat) {cA : ClassId} {n : Nat} (ho : ArI f a cA n) (ht : tys[t0]? = some (cA, .int)) {i : Int} (ri : rg i) (h0 : 0 ≤ i) (h1 : i < n) (d : decode cc pc = .ok (.iaload, 1))
    (kk : ∀ z : Int, -2147483648 ≤ z → z ≤ 2147483647 → z = aI f a i → W p l e R s m args below meth c H locs cells slots Q (F0 m (pc + 1) ls (.int (iI z) :: rest))) : W p l e R s m args below meth c H locs cells slots Q (F0 m pc ls (.int (iI i) :: .ref a :: rest)) := by
  obtain ⟨g, hg⟩ := ho
  obtain ⟨q0, hq⟩ := hw.at ha
  rw [hg] at hq
  refine va_iald hx hb hK hw.1 q0 t0 hq ht (iI_in ri h0 h1) d ?_
  refine q_num fun z z1 z2 z3 => kk z z1 z2 ?_
  rw [z3, iI_nat ri]
  unfold aI
  rw [hg]
theorem q_iast (hx : p.tables.exec = Jvm.exec) (hb : c.code = cc) (hK : va_K D vwCl tys s) (hw : Wd D A H0 L f H locs) (ha : a ∈ L) (t0 : Nat) {cA : ClassId} {n : Nat} (ho : ArI f a cA n) (ht : tys[t0]? = some (cA, .int)) {i x : Int} (ri : rg i) (h0 : 0 ≤ i) (h1 : i < n) (d : decode cc pc = .ok (.iastore, 1))
    (kk : ∀ (H1 : Heap) (locs1 : List Loc), Wd D A H0 L (aU f a i (iI x)) H1 locs1 → W p l e R s m args below meth c H1 locs1 cells slots Q (F0 m (pc + 1) ls rest)) : W p l e R s m args below meth c H locs cells slots Q (F0 m pc ls (.int (iI x) :: .int (iI i) :: .ref a :: rest)) := by
  obtain ⟨g, hg⟩ := ho
  obtain ⟨q0, hq⟩ := hw.at ha
  have hq' := hq
  rw [hg] at hq
  refine va_iast hx hb hK hw.1 hw.2.1 hw.2.2 q0 t0 hq ht (iI_in ri h0 h1) d (fun H1 locs1 g1 g2 g3 => ?_)
  rw [hw.put ha hq', iI_nat ri] at g1 g2
  exact kk H1 locs1 (by rw [aU_eq hg]; exact ⟨g1, g2, g3⟩)
theorem q_alenI (hx : p.tables.exec = Jvm.exec) (hb : c.code = cc) (hK : va_K D vwCl tys s) (hw : Wd D A H0 L f H locs) (ha : a ∈ L) (t0 : Nat) {cA : ClassId} {n : Nat} (ho : ArI f a cA n) {ty : FieldType} (ht : tys[t0]? = some (cA, ty)) (d : decode cc pc = .ok (.arraylength, 1))
    (kk : W p l e R s m args below meth c H locs cells slots Q (F0 m (pc + 1) ls (.int (iI n) :: rest))) : W p l e R s m args below meth c H locs cells slots Q (F0 m pc ls (.ref a :: rest)) := by
  obtain ⟨g, hg⟩ := ho
  obtain ⟨q0, hq⟩ := hw.at ha
  rw [hg] at hq
  exact va_alen hx hb hK hw.1 q0 t0 hq ht (show Int32.ofNat n = iI n from Int32.ofInt_eq_ofNat.symm) d kk
end QP
