/-! ===== a Booking is copied: its odds too ===== -/
section QCV
variable {p : Program} {l : Launch} {e : Env} {R : Room} {s : State} {m : MethodId} {args : Array Value} {below : List Frame} {meth : Method} {c : Code} {H : Heap} {locs : List Loc} {cells slots : Nat} {Q : State → Prop}
variable {cc : ByteArray} {pc : Nat} {ls : Array Slot} {rest : List Value} {D : va_G} {A : Nat → Prop} {a a0 : Nat} {tys : List (ClassId × FieldType)} {H0 : Heap} {L : List Nat} {f : Nat → va_E}
theorem q_copyv (hx : p.tables.exec = Jvm.exec) (hb : c.code = cc) (hml : c.maxLocals = ls.size) {own : String} {index : Nat} (hown : s.vm.findClass own = some m.cls) (h1 : (Cond.methodLink own index arraycopyName).before args s = true) (h2 : (Cond.native arraycopyName).before args s = true) (h3 : (Cond.static arraycopyName).before args s = true) (h4 : (Cond.initialized "java/lang/System").before args s = true)
    (hK : va_K D vwCl tys s) (hw : Wd D A H0 L f H locs) (t0 : Nat) {cA : ClassId} {n0 n1 n : Nat} (hn : (n : Int) ≤ 2147483647) (ha0 : a0 ∈ L) (o0 : ArI f a0 cA n0) (ha : a ∈ L) (o1 : ArI f a cA n1) (ht : tys[t0]? = some (cA, .int)) (g0 : n ≤ n0) (g1 : n ≤ n1)
    (hframes : 1 ≤ R.frames) (hlocals : (rest.map fun v => v.category).sum + (nativeFrameWords "java/lang/System" "arraycopy" 5 + 11) ≤ R.locals) (d : decode cc pc = .ok (.invokestatic index, 3))
    (kk : ∀ (g : Nat → Int32) (H1 : Heap) (locs1 : List Loc), (∀ j : Int, 0 ≤ j → j < (n : Int) → aI (aX f a g) a j = aI f a0 j) → Wd D A H0 L (aX f a g) H1 locs1 → W p l e R s m args below meth c H1 locs1 cells slots Q (F0 m (pc + 3) ls rest)) : W p l e R s m args below meth c H locs cells slots Q (F0 m pc ls (.int (iI n) :: .int (iI 0) :: .ref a :: .int (iI 0) :: .ref a0 :: rest)) := by
  obtain ⟨v0, e0⟩ := o0
  obtain ⟨v1, e1⟩ := o1
  obtain ⟨q0, hq0⟩ := hw.at ha0
  obtain ⟨q1, hq1⟩ := hw.at ha
  have hq' := hq1
  rw [e0] at hq0
  rw [e1] at hq1
  have rn : rg (n : Int) := ⟨by omega, hn⟩
  have z0 : (iI 0).toNatClampNeg = 0 := by rw [iI_nat rg_0]; rfl
  have zn : (iI (n : Int)).toNatClampNeg = n := by rw [iI_nat rn]; rfl
  have nn : ∀ x : Int, rg x → 0 ≤ x → ¬ iI x < 0 := fun x rx h q => by have := (iI_lt rx rg_0).mp q; omega
  refine va_copyi hx hb hml hown h1 h2 h3 h4 hK hw.1 hw.2.1 hw.2.2 q0 q1 t0 t0 hq0 hq1 ht ht rfl (nn 0 rg_0 (by omega)) (nn 0 rg_0 (by omega)) (nn n rn (by omega)) (by rw [z0, zn]; omega) (by rw [z0, zn]; omega) (fun i hi => rfl) hframes hlocals d (fun H1 locs1 k1 k2 k3 => ?_)
  rw [hw.put ha hq'] at k1 k2
  refine kk (va_cpy v0 v1 (iI 0).toNatClampNeg (iI 0).toNatClampNeg (iI (n : Int)).toNatClampNeg) H1 locs1 (fun j j0 j1 => ?_) (by rw [aX_eq e1]; exact ⟨k1, k2, k3⟩)
  rw [aX_eq e1]
  unfold aI
  rw [va_up_self, e0, z0, zn]
  show (va_cpy v0 v1 0 0 n j.toNat).toInt = (v0 j.toNat).toInt
  unfold va_cpy
  rw [if_pos ⟨Nat.zero_le _, by omega⟩, Nat.zero_add, Nat.sub_zero]
end QCV
/-- one Booking changes, its two arrays stay its own -/
def Ec (f g : Nat → va_E) (b : Nat) : Prop := (∀ y k : Nat, y ≠ b → fV g y k = fV f y k) ∧ (fV g b 11 = fV f b 11 ∧ fV g b 12 = fV f b 12) ∧ (∀ (y : Nat) (j : Int), y ≠ KA f b → y ≠ TA f b → aI g y j = aI f y j)
theorem Ec.refl (f : Nat → va_E) (b : Nat) : Ec f f b := ⟨fun _ _ _ => rfl, ⟨rfl, rfl⟩, fun _ _ _ _ => rfl⟩
theorem Ec.ka {f g : Nat → va_E} {b : Nat} (h : Ec f g b) (y : Nat) : KA g y = KA f y ∧ TA g y = TA f y := by
  by_cases q : y = b
  · rw [q]; exact ⟨KA_W h.2.1.1, TA_W h.2.1.2⟩
  · exact ⟨KA_W (h.1 y 11 q), TA_W (h.1 y 12 q)⟩
theorem Ec.trans {f g h : Nat → va_E} {b : Nat} (x : Ec f g b) (y : Ec g h b) : Ec f h b := by
  have k := x.ka b
  exact ⟨fun z j q => (y.1 z j q).trans (x.1 z j q), ⟨y.2.1.1.trans x.2.1.1, y.2.1.2.trans x.2.1.2⟩, fun z j q1 q2 => (y.2.2 z j (by rw [k.1]; exact q1) (by rw [k.2]; exact q2)).trans (x.2.2 z j q1 q2)⟩
theorem Ec.pU {f0 f g : Nat → va_E} {a k : Nat} {v : Value} (h : Ec f0 f a) (o : Ob f a 0) (e : g = Jvm.Pilot.CBookIndexLaw_law_r3826_022878.pU f a k v) (n1 : 11 ≠ k) (n2 : 12 ≠ k) : Ec f0 g a := by
  refine h.trans ?_
  rw [e]
  exact ⟨fun y j q => fV_pU (Or.inl q), ⟨fV_pU (Or.inr n1), fV_pU (Or.inr n2)⟩, fun y j _ _ => aI_pU o⟩
theorem Ec.aX {f0 f g : Nat → va_E} {a c n : Nat} {cA : ClassId} {u : Nat → Int32} (h : Ec f0 f a) (o : ArI f c cA n) (e : g = Jvm.Pilot.CBookIndexLaw_law_r3826_022878.aX f c u) (q : c = KA f a ∨ c = TA f a) : Ec f0 g a := by
  refine h.trans ?_
  rw [e]
  exact ⟨fun y j _ => fV_aX o, ⟨fV_aX o, fV_aX o⟩, fun y j q1 q2 => by unfold aI; rw [aX_ne (fun z => q.elim (fun w => q1 (z.trans w)) (fun w => q2 (z.trans w)))]⟩
theorem Ec.set {f g : Nat → va_E} {a : Nat} (t : SeT f g a) (o : Ob f a 0) (s : Sh f g) : Ec f g a := by
  refine ⟨fun y k q => by unfold fV; rw [t.1 y q], ⟨t.2 11 (by decide) (by decide) (by decide), t.2 12 (by decide) (by decide) (by decide)⟩, fun y j q1 q2 => ?_⟩
  by_cases q : y = a
  · obtain ⟨fs, h1, hm⟩ := o
    obtain ⟨gs, h2, -⟩ := s.1 a 0 ⟨fs, h1, hm⟩
    rw [q]; unfold aI; rw [h1, h2]
  · unfold aI; rw [t.1 y q]
/-- what is copied: numbers, odds -/
def CO (f0 f : Nat → va_E) (a b : Nat) : Prop := (∀ j : Int, 0 ≤ j → j < 16 → aI f (KA f0 a) j = aI f0 (KA f0 b) j) ∧ (∀ j : Int, 0 ≤ j → j < 16 → aI f (TA f0 a) j = aI f0 (TA f0 b) j)
theorem co_k {f0 f g : Nat → va_E} {a b c d : Nat} {u : Nat → Int32} (h : Ec f0 f a) (ne : b ≠ a) (ad : AD f0 b a) (e : g = aX f c u) (hc : ∀ j : Int, 0 ≤ j → j < ((16 : Nat) : Int) → aI (aX f c u) c j = aI f d j) (ec : c = KA f a) (ed : d = KA f b) : ∀ j : Int, 0 ≤ j → j < 16 → aI g (KA f0 a) j = aI f0 (KA f0 b) j := by
  intro j j0 j1
  have k1 := h.ka a
  have k2 := h.ka b
  rw [← k1.1, ← ec, e, hc j j0 (by omega), ed, k2.1]
  exact h.2.2 _ j ad.1 ad.2.1
theorem co_t {f0 f g : Nat → va_E} {a b c d : Nat} {u : Nat → Int32} (h : Ec f0 f a) (ne : b ≠ a) (ad : AD f0 b a) (e : g = aX f c u) (hc : ∀ j : Int, 0 ≤ j → j < ((16 : Nat) : Int) → aI (aX f c u) c j = aI f d j) (ec : c = TA f a) (ed : d = TA f b) : ∀ j : Int, 0 ≤ j → j < 16 → aI g (TA f0 a) j = aI f0 (TA f0 b) j := by
  intro j j0 j1
  have k1 := h.ka a
  have k2 := h.ka b
  rw [← k1.2, ← ec, e, hc j j0 (by omega), ed, k2.2]
  exact h.2.2 _ j ad.2.2.1 ad.2.2.2
theorem OC.copy {f0 f1 : Nat → va_E} {a b : Nat} {O : Int → Int} (h : OC f0 b O) (c : CO f0 f1 a b) (z : Ec f0 f1 a) (e10 : fV f1 a 10 = fV f0 b 10) (bb : fI f0 b 10 ≤ 16) : OC f1 a O := by
  have k := z.ka a
  have e : fI f1 a 10 = fI f0 b 10 := by unfold fI; rw [e10]
  unfold OC
  rw [k.1, k.2]
  exact OdR.cg h e (fun i i0 i1 => c.1 i i0 (by omega)) (fun i i0 i1 => c.2 i i0 (by omega))
theorem OC.ec {f g : Nat → va_E} {a b : Nat} {O : Int → Int} (h : OC f b O) (z : Ec f g a) (ne : b ≠ a) (d : AD f b a) : OC g b O :=
  h.keep (z.1 b 10 ne) (z.1 b 11 ne) (z.1 b 12 ne) (fun j => z.2.2 _ j d.1 d.2.1) (fun j => z.2.2 _ j d.2.2.1 d.2.2.2)
theorem AD.ka {f g : Nat → va_E} {a b : Nat} (h : AD f a b) (ea : KA g a = KA f a ∧ TA g a = TA f a) (eb : KA g b = KA f b ∧ TA g b = TA f b) : AD g a b := by unfold AD; rw [ea.1, ea.2, eb.1, eb.2]; exact h
theorem AD.symm {f : Nat → va_E} {a b : Nat} (h : AD f a b) : AD f b a := ⟨fun e => h.1 e.symm, fun e => h.2.2.1 e.symm, fun e => h.2.1 e.symm, fun e => h.2.2.2 e.symm⟩
/-! ===== some Bookings change, their arrays stay their own ===== -/
def Em (P : Nat → Prop) (f g : Nat → va_E) : Prop := (∀ y k : Nat, ¬ P y → fV g y k = fV f y k) ∧ (∀ y : Nat, P y → fV g y 11 = fV f y 11 ∧ fV g y 12 = fV f y 12) ∧ (∀ (y : Nat) (j : Int), (∀ b : Nat, P b → fR f b 11 ≠ some y ∧ fR f b 12 ≠ some y) → aI g y j = aI f y j)
theorem Em.refl (P : Nat → Prop) (f : Nat → va_E) : Em P f f := ⟨fun _ _ _ => rfl, fun _ _ => ⟨rfl, rfl⟩, fun _ _ _ => rfl⟩
theorem Em.w {P : Nat → Prop} {f g : Nat → va_E} (h : Em P f g) (y : Nat) : fV g y 11 = fV f y 11 ∧ fV g y 12 = fV f y 12 := by
  rcases Classical.em (P y) with c | c
  · exact h.2.1 y c
  · exact ⟨h.1 y 11 c, h.1 y 12 c⟩
theorem Em.ka {P : Nat → Prop} {f g : Nat → va_E} (h : Em P f g) (y : Nat) : KA g y = KA f y ∧ TA g y = TA f y := ⟨KA_W (h.w y).1, TA_W (h.w y).2⟩
theorem Em.r {P : Nat → Prop} {f g : Nat → va_E} (h : Em P f g) (y : Nat) : fR g y 11 = fR f y 11 ∧ fR g y 12 = fR f y 12 := ⟨fR_W (h.w y).1, fR_W (h.w y).2⟩
theorem Em.trans {P : Nat → Prop} {f g h : Nat → va_E} (x : Em P f g) (y : Em P g h) : Em P f h :=
  ⟨fun z k q => (y.1 z k q).trans (x.1 z k q), fun z q => ⟨(y.2.1 z q).1.trans (x.2.1 z q).1, (y.2.1 z q).2.trans (x.2.1 z q).2⟩, fun z j q => (y.2.2 z j (fun b pb => by rw [(x.r b).1, (x.r b).2]; exact q b pb)).trans (x.2.2 z j q)⟩
theorem Em.mono {P Q : Nat → Prop} {f g : Nat → va_E} (h : Em P f g) (s : ∀ y, P y → Q y) : Em Q f g :=
  ⟨fun y k q => h.1 y k (fun z => q (s y z)), fun y _ => h.w y, fun y j q => h.2.2 y j (fun b pb => q b (s b pb))⟩
theorem Ec.em {f g : Nat → va_E} {b : Nat} {cy : Cy} (h : Ec f g b) (ao : AO cy f b) : Em (fun y => y = b) f g :=
  ⟨fun y k q => h.1 y k q, fun y q => by rw [q]; exact h.2.1, fun y j q => h.2.2 y j (fun e => (q b rfl).1 (by rw [e]; exact ao.1)) (fun e => (q b rfl).2 (by rw [e]; exact ao.2.1))⟩
theorem Eo.em {f g : Nat → va_E} {b : Nat} {cy : Cy} (h : Eo f g b) (ao : AO cy f b) : Em (fun y => y = b) f g :=
  ⟨fun y k q => h.2.1 y k (Or.inl q), fun y q => ⟨h.2.1 y 11 (Or.inr (by decide)), h.2.1 y 12 (Or.inr (by decide))⟩, fun y j q => h.2.2.2 y j (fun e => (q b rfl).1 (by rw [e]; exact ao.1)) (fun e => (q b rfl).2 (by rw [e]; exact ao.2.1))⟩
theorem Em.pU {P : Nat → Prop} {f0 f g : Nat → va_E} {a k ci : Nat} {v : Value} (h : Em P f0 f) (o : Ob f a ci) (e : g = Jvm.Pilot.CBookIndexLaw_law_r3826_022878.pU f a k v) (p : P a) (n1 : 11 ≠ k) (n2 : 12 ≠ k) : Em P f0 g := by
  refine h.trans ?_
  rw [e]
  exact ⟨fun y j q => fV_pU (Or.inl (fun z => q (z ▸ p))), fun y _ => ⟨fV_pU (Or.inr n1), fV_pU (Or.inr n2)⟩, fun y j _ => aI_pU o⟩
theorem OC.pU {f g : Nat → va_E} {a b k ci : Nat} {v : Value} {O : Int → Int} (h : OC f b O) (o : Ob f a ci) (e : g = Jvm.Pilot.CBookIndexLaw_law_r3826_022878.pU f a k v) (n0 : 10 ≠ k) (n1 : 11 ≠ k) (n2 : 12 ≠ k) : OC g b O := by
  rw [e]
  exact h.keep (fV_pU (Or.inr n0)) (fV_pU (Or.inr n1)) (fV_pU (Or.inr n2)) (fun j => aI_pU o) (fun j => aI_pU o)
theorem OC.em {P : Nat → Prop} {f g : Nat → va_E} {b : Nat} {O : Int → Int} (h : OC f b O) (z : Em P f g) (nb : ¬ P b) (d : ∀ c : Nat, P c → (fR f c 11 ≠ some (KA f b) ∧ fR f c 12 ≠ some (KA f b)) ∧ (fR f c 11 ≠ some (TA f b) ∧ fR f c 12 ≠ some (TA f b))) : OC g b O :=
  h.keep (z.1 b 10 nb) (z.1 b 11 nb) (z.1 b 12 nb) (fun j => z.2.2 _ j (fun c pc => (d c pc).1)) (fun j => z.2.2 _ j (fun c pc => (d c pc).2))
theorem AD.fr {cy : Cy} {f : Nat → va_E} {b c : Nat} (d : AD f b c) (ao : AO cy f c) : (fR f c 11 ≠ some (KA f b) ∧ fR f c 12 ≠ some (KA f b)) ∧ (fR f c 11 ≠ some (TA f b) ∧ fR f c 12 ≠ some (TA f b)) :=
  ⟨⟨fun e => d.1 (Option.some.inj (ao.1.symm.trans e)).symm, fun e => d.2.1 (Option.some.inj (ao.2.1.symm.trans e)).symm⟩, ⟨fun e => d.2.2.1 (Option.some.inj (ao.1.symm.trans e)).symm, fun e => d.2.2.2 (Option.some.inj (ao.2.1.symm.trans e)).symm⟩⟩
theorem sh_none {f : Nat → va_E} {s ci k : Nat} (o : Ob f s ci) (h : (sg ci)[k]? = none) : fR f s k = none := by
  obtain ⟨fs, h1, h2⟩ := o
  have e : fs[k]? = none := by
    rw [← h2, List.getElem?_map] at h
    cases q : fs[k]? with
    | none => rfl
    | some v => rw [q] at h; cases h
  unfold fR fV
  rw [h1]
  show (match fs[k]? with | some (.ref r) => some r | _ => none) = none
  rw [e]
theorem SeT.oc {f g : Nat → va_E} {a b : Nat} {O : Int → Int} (t : SeT f g a) (o : Ob f a 0) (s : Sh f g) (h : OC f b O) : OC g b O := by
  have z := Ec.set t o s
  have za : ∀ (y : Nat) (j : Int), aI g y j = aI f y j := fun y j => by
    by_cases q : y = a
    · obtain ⟨fs, h1, hm⟩ := o
      obtain ⟨gs, h2, -⟩ := s.1 a 0 ⟨fs, h1, hm⟩
      rw [q]; unfold aI; rw [h1, h2]
    · unfold aI; rw [t.1 y q]
  have zf : ∀ k : Nat, k ≠ 7 → k ≠ 8 → k ≠ 9 → fV g b k = fV f b k := fun k n1 n2 n3 => by
    by_cases q : b = a
    · rw [q]; exact t.2 k n1 n2 n3
    · unfold fV; rw [t.1 b q]
  exact h.keep (zf 10 (by decide) (by decide) (by decide)) (zf 11 (by decide) (by decide) (by decide)) (zf 12 (by decide) (by decide) (by decide)) (fun j => za _ j) (fun j => za _ j)
/-! ===== a Booking is cut in two: its odds too ===== -/
def HX (P : Int → Prop) (f0 f : Nat → va_E) (a : Nat) (O : Int → Int) (c : Int) : Prop := ∃ Oa : Int → Int, OC f a Oa ∧ CuI P (aI f (KA f0 a)) O Oa (fI f a 10) c
theorem HX.start {P : Int → Prop} {f0 f : Nat → va_E} {a : Nat} {O : Int → Int} {c : Int} (o : OC f a O) (n : fI f a 10 ≤ 16) (e : c = 15) : HX P f0 f a O c := ⟨O, o, CuI.start (by omega)⟩
theorem HX.arg {P : Int → Prop} {f0 f : Nat → va_E} {a : Nat} {O : Int → Int} {c c' : Int} (h : HX P f0 f a O c) (e : c' = c) : HX P f0 f a O c' := by rw [e]; exact h
/-- another one's odds change -/
theorem HX.eo {P : Int → Prop} {f0 f g : Nat → va_E} {a b : Nat} {O : Int → Int} {c : Int} (h : HX P f0 f a O c) (z : Eo f g b) (ne : a ≠ b) (d : AD f a b) (ka : KA f a = KA f0 a) (c0 : -1 ≤ c) : HX P f0 g a O c := by
  obtain ⟨Oa, o, cu⟩ := h
  refine ⟨Oa, o.eo z ne d, cu.cg (fI_W (z.2.1 a 10 (Or.inl ne))) c0 (fun i _ _ => ?_)⟩
  rw [← ka]
  exact z.2.2.2 _ i d.1 d.2.1
theorem HX.stay {P : Int → Prop} {f0 f : Nat → va_E} {a : Nat} {O : Int → Int} {c c' : Int} (h : HX P f0 f a O c) (ec : c' = c - 1) (k : c < fI f a 10 → ¬ P (aI f (KA f0 a) c)) : HX P f0 f a O c' := by
  obtain ⟨Oa, o, cu⟩ := h
  exact ⟨Oa, o, cu.stay ec k⟩
theorem HX.gone {P : Int → Prop} {f0 f g : Nat → va_E} {a : Nat} {O Oa : Int → Int} {c c' : Int} (cu : CuI P (aI f (KA f0 a)) O Oa (fI f a 10) c) (z : Eo f g a ∧ OC g a (upO Oa (aI f (KA f a) c) (-2)) ∧ fI g a 10 = fI f a 10 - 1 ∧ (∀ j : Int, 0 ≤ j → j ≠ c → aI g (KA f a) j = aI f (KA f a) j) ∧ aI g (KA f a) c = aI f (KA f a) (fI f a 10 - 1)) (ka : KA f a = KA f0 a) (c0 : 0 ≤ c) (ec : c' = c - 1) (p : P (aI f (KA f0 a) c)) : HX P f0 g a O c' := by
  obtain ⟨z1, z2, z3, z4, z5⟩ := z
  rw [ka] at z2 z4 z5
  refine ⟨_, z2, cu.gone ec z3 p (fun j j0 j1 => ?_)⟩
  by_cases q : j = c
  · exact ⟨fI f a 10 - 1, by omega, by omega, by rw [q]; exact z5⟩
  · exact ⟨j, by omega, by omega, z4 j (by omega) q⟩
theorem HX.head {f0 f : Nat → va_E} {a : Nat} {O : Int → Int} {c d : Int} (h : HX (fun k => d ≤ k) f0 f a O c) (ka : KA f a = KA f0 a) (e : c = -1) : OC f a (cutH O d) := by
  obtain ⟨Oa, o, cu⟩ := h
  rw [e, ← ka] at cu
  rw [← cu.head o]; exact o
theorem HX.tail {f0 f : Nat → va_E} {a : Nat} {O : Int → Int} {c d : Int} (h : HX (fun k => k < d) f0 f a O c) (ka : KA f a = KA f0 a) (e : c = -1) : OC f a (cutT O d) := by
  obtain ⟨Oa, o, cu⟩ := h
  rw [e, ← ka] at cu
  rw [← cu.tail o]; exact o
set_option maxHeartbeats 4000000 in
set_option maxRecDepth 100000 in
theorem c_X0_copyFrom_o {Z : Zt} (zo : Zok Z) (l : Launch) (D : va_G) (cy : Cy) (L0 : List Nat) (f0 : Nat → va_E) (a0 : Nat) (a1 : Nat) (m_a0 : a0 ∈ L0) (o_a0 : Ob f0 a0 0) (m_a1 : a1 ∈ L0) (o_a1 : Ob f0 a1 0) (hg : GI cy L0 f0) (ne : a1 ≠ a0) (adj : AD f0 a1 a0) (na : KA f0 a0 ≠ TA f0 a0) : Cv Z l yX0_copyFrom (Cond.code yX0_copyFrom cX0_copyFrom 2 none :: TB) ({ frames := 1, cells := 0, slots := 0, locals := 60 } : Room) 0 0 D (tq cy) [.ref a0, .ref a1] L0 f0 (fun (L1 : List Nat) (f1 : Nat → va_E) => L0 = L1 ∧ GI cy L0 f1 ∧ Ex cy f0 f1 ∧ ((Fo (fun y => y = a0) cy f0 f1 ∧ Fr0 f0 f1 ∧ ∀ k : Nat, k < 11 → fV f1 a0 k = fV f0 a1 k) ∧ Ec f0 f1 a0 ∧ CO f0 f1 a0 a1)) := by
  refine Cv.enter (cc := cX0_copyFrom) (n := 2) rfl (plainFor_of_name (by decide)) (Nat.le_of_ble_eq_true rfl) ?_
  intro p e s m below meth c ls A hx hb hr hts hown hlocks hnm hml hK hA hAe hw hZ hl
  have hown : s.vm.findClass RX0 = some m.cls := hown
  have hl : lv_has ls 2 [(0, .ref a0), (1, .ref a1)] := hl
  have hN : ZN s := (zo.2.2.2.2 _ _ _ hZ).2
  have hE : Ex cy f0 f0 := Ex.refl cy f0
  have hF := Fo.refl (fun y => y = a0) cy f0
  have hR : Fr0 f0 f0 := fun _ _ => rfl
  have cp := CP.start f0 a0 a1
  have hC := Ec.refl f0 a0
  refine lv_aload_n hx hb dX0_copyFrom_0 rfl (lv_at hl 0 rfl) ?_
  refine lv_aload_n hx hb dX0_copyFrom_1 rfl (lv_at hl 1 rfl) ?_
  refine q_geti (ci := 0) (C := RX0) (T := TX0) (N := 15) hx hb hts (fun w h => List.mem_cons_of_mem _ (mfX00 w h)) hown hK hw m_a1 o_a1 rfl 0 (by decide) (hts _ (List.mem_cons_of_mem _ (mr40 _ (List.mem_of_getElem? (i := 19) rfl)))) (fun _ h => h) rfl dX0_copyFrom_2 (fun x_1 lx_1 ux_1 ex_1 => ?_)
  have gx := ex_1
  have ob1 := o_a1
  refine q_puti (ci := 0) (C := RX0) (T := TX0) (N := 15) hx hb hts (fun w h => List.mem_cons_of_mem _ (mfX00 w h)) hown hK hw m_a0 o_a0 rfl 0 (by decide) (hts _ (List.mem_cons_of_mem _ (mr40 _ (List.mem_of_getElem? (i := 19) rfl)))) (fun _ h => h) tyX0 tyX0_ok nmX0 rfl (ty := .int) (by decide +kernel) rfl rfl dX0_copyFrom_5 (fun H locs hw => ?_)
  have oo := o_a0
  obtain ⟨f_2, ef_2⟩ : ∃ g : Nat → va_E, g = pU f0 a0 0 (.int (iI x_1)) := ⟨_, rfl⟩
  have hX : Ex cy f0 f_2 := by rw [ef_2]; exact Ex_pU oo rfl rfl (by decide)
  have hg : GI cy L0 f_2 := by rw [ef_2]; exact hg.putI oo rfl ⟨lx_1, ux_1⟩ trivial
  rw [← ef_2] at hw
  have hE := hE.trans hX
  have o_a0 := hX.1.1 _ _ o_a0
  have o_a1 := hX.1.1 _ _ o_a1
  have vf_2 : fI f_2 a0 0 = x_1 := by rw [ef_2]; exact fI_pU_self oo rfl ⟨lx_1, ux_1⟩
  have cp := cp.put ne oo ob1 rfl ef_2 gx
  have hF := hF.pU oo rfl rfl ef_2 rfl
  have hR : Fr0 f0 f_2 := fun y j => Eq.trans (by rw [ef_2]; exact aR_pU oo) (hR y j)
  have hC := hC.pU oo ef_2 (by decide) (by decide)
  refine lv_aload_n hx hb dX0_copyFrom_8 rfl (lv_at hl 0 rfl) ?_
  refine lv_aload_n hx hb dX0_copyFrom_9 rfl (lv_at hl 1 rfl) ?_
  refine q_geti (ci := 0) (C := RX0) (T := TX0) (N := 15) hx hb hts (fun w h => List.mem_cons_of_mem _ (mfX00 w h)) hown hK hw m_a1 o_a1 rfl 1 (by decide) (hts _ (List.mem_cons_of_mem _ (mr29 _ (List.mem_of_getElem? (i := 18) rfl)))) (fun _ h => h) rfl dX0_copyFrom_10 (fun x_3 lx_3 ux_3 ex_3 => ?_)
  have gx := ex_3
  have ob1 := o_a1
  refine q_puti (ci := 0) (C := RX0) (T := TX0) (N := 15) hx hb hts (fun w h => List.mem_cons_of_mem _ (mfX00 w h)) hown hK hw m_a0 o_a0 rfl 1 (by decide) (hts _ (List.mem_cons_of_mem _ (mr29 _ (List.mem_of_getElem? (i := 18) rfl)))) (fun _ h => h) tyX0 tyX0_ok nmX0 rfl (ty := .int) (by decide +kernel) rfl rfl dX0_copyFrom_13 (fun H locs hw => ?_)
  have oo := o_a0
  obtain ⟨f_4, ef_4⟩ : ∃ g : Nat → va_E, g = pU f_2 a0 1 (.int (iI x_3)) := ⟨_, rfl⟩
  have hX : Ex cy f_2 f_4 := by rw [ef_4]; exact Ex_pU oo rfl rfl (by decide)
  have hg : GI cy L0 f_4 := by rw [ef_4]; exact hg.putI oo rfl ⟨lx_3, ux_3⟩ trivial
  rw [← ef_4] at hw
  have hE := hE.trans hX
  have o_a0 := hX.1.1 _ _ o_a0
  have o_a1 := hX.1.1 _ _ o_a1
  have vf_4 : fI f_4 a0 1 = x_3 := by rw [ef_4]; exact fI_pU_self oo rfl ⟨lx_3, ux_3⟩
  have cp := cp.put ne oo ob1 rfl ef_4 gx
  have hF := hF.pU oo rfl rfl ef_4 rfl
  have hR : Fr0 f0 f_4 := fun y j => Eq.trans (by rw [ef_4]; exact aR_pU oo) (hR y j)
  have hC := hC.pU oo ef_4 (by decide) (by decide)
  refine lv_aload_n hx hb dX0_copyFrom_16 rfl (lv_at hl 0 rfl) ?_
  refine lv_aload_n hx hb dX0_copyFrom_17 rfl (lv_at hl 1 rfl) ?_
  refine q_geti (ci := 0) (C := RX0) (T := TX0) (N := 15) hx hb hts (fun w h => List.mem_cons_of_mem _ (mfX00 w h)) hown hK hw m_a1 o_a1 rfl 2 (by decide) (hts _ (List.mem_cons_of_mem _ (mr35 _ (List.mem_of_getElem? (i := 12) rfl)))) (fun _ h => h) rfl dX0_copyFrom_18 (fun x_5 lx_5 ux_5 ex_5 => ?_)
  have gx := ex_5
  have ob1 := o_a1
  refine q_puti (ci := 0) (C := RX0) (T := TX0) (N := 15) hx hb hts (fun w h => List.mem_cons_of_mem _ (mfX00 w h)) hown hK hw m_a0 o_a0 rfl 2 (by decide) (hts _ (List.mem_cons_of_mem _ (mr35 _ (List.mem_of_getElem? (i := 12) rfl)))) (fun _ h => h) tyX0 tyX0_ok nmX0 rfl (ty := .int) (by decide +kernel) rfl rfl dX0_copyFrom_21 (fun H locs hw => ?_)
  have oo := o_a0
  obtain ⟨f_6, ef_6⟩ : ∃ g : Nat → va_E, g = pU f_4 a0 2 (.int (iI x_5)) := ⟨_, rfl⟩
  have hX : Ex cy f_4 f_6 := by rw [ef_6]; exact Ex_pU oo rfl rfl (by decide)
  have hg : GI cy L0 f_6 := by rw [ef_6]; exact hg.putI oo rfl ⟨lx_5, ux_5⟩ trivial
  rw [← ef_6] at hw
  have hE := hE.trans hX
  have o_a0 := hX.1.1 _ _ o_a0
  have o_a1 := hX.1.1 _ _ o_a1
  have vf_6 : fI f_6 a0 2 = x_5 := by rw [ef_6]; exact fI_pU_self oo rfl ⟨lx_5, ux_5⟩
  have cp := cp.put ne oo ob1 rfl ef_6 gx
  have hF := hF.pU oo rfl rfl ef_6 rfl
  have hR : Fr0 f0 f_6 := fun y j => Eq.trans (by rw [ef_6]; exact aR_pU oo) (hR y j)
  have hC := hC.pU oo ef_6 (by decide) (by decide)
  refine lv_aload_n hx hb dX0_copyFrom_24 rfl (lv_at hl 0 rfl) ?_
  refine lv_aload_n hx hb dX0_copyFrom_25 rfl (lv_at hl 1 rfl) ?_
  obtain ⟨r_7, er_7, m_r_7, o_r_7⟩ := (show ∃ r, fR f_6 a1 3 = some r ∧ r ∈ L0 ∧ Rl f_6 r from hg.2.1 _ m_a1 0 3 o_a1)
  refine q_getr (ci := 0) (C := RX0) (T := TX0) (N := 15) hx hb hts (fun w h => List.mem_cons_of_mem _ (mfX00 w h)) hown hK hw m_a1 o_a1 rfl 3 (by decide) (hts _ (List.mem_cons_of_mem _ (mr3 _ (List.mem_of_getElem? (i := 4) rfl)))) (fun _ h => h) rfl er_7 dX0_copyFrom_26 ?_
  have gr := er_7
  refine q_putr (ci := 0) (C := RX0) (T := TX0) (N := 15) hx hb hts (fun w h => List.mem_cons_of_mem _ (mfX00 w h)) hown hK hw m_a0 o_a0 rfl 3 (by decide) (hts _ (List.mem_cons_of_mem _ (mr3 _ (List.mem_of_getElem? (i := 4) rfl)))) (fun _ h => h) tyX0 tyX0_ok nmX0 rfl (ty := tyX0 3) (by decide +kernel) rfl rfl rfl dX0_copyFrom_29 (fun H locs hw => ?_)
  have oo := o_a0
  obtain ⟨f_8, ef_8⟩ : ∃ g : Nat → va_E, g = pU f_6 a0 3 (.ref r_7) := ⟨_, rfl⟩
  have hX : Ex cy f_6 f_8 := by rw [ef_8]; exact Ex_pU oo rfl rfl (by decide)
  have hg : GI cy L0 f_8 := by rw [ef_8]; exact hg.putR oo rfl ⟨r_7, rfl, m_r_7, o_r_7⟩
  rw [← ef_8] at hw
  have hE := hE.trans hX
  have o_a0 := hX.1.1 _ _ o_a0
  have o_a1 := hX.1.1 _ _ o_a1
  have cp := cp.putR ne oo rfl ef_8 gr
  have hF := hF.pU oo rfl rfl ef_8 rfl
  have hR : Fr0 f0 f_8 := fun y j => Eq.trans (by rw [ef_8]; exact aR_pU oo) (hR y j)
  have hC := hC.pU oo ef_8 (by decide) (by decide)
  refine lv_aload_n hx hb dX0_copyFrom_32 rfl (lv_at hl 0 rfl) ?_
  refine lv_aload_n hx hb dX0_copyFrom_33 rfl (lv_at hl 1 rfl) ?_
  refine q_geti (ci := 0) (C := RX0) (T := TX0) (N := 15) hx hb hts (fun w h => List.mem_cons_of_mem _ (mfX00 w h)) hown hK hw m_a1 o_a1 rfl 4 (by decide) (hts _ (List.mem_cons_of_mem _ (mr14 _ (List.mem_of_getElem? (i := 7) rfl)))) (fun _ h => h) rfl dX0_copyFrom_34 (fun x_9 lx_9 ux_9 ex_9 => ?_)
  have gx := ex_9
  have ob1 := o_a1
  refine q_puti (ci := 0) (C := RX0) (T := TX0) (N := 15) hx hb hts (fun w h => List.mem_cons_of_mem _ (mfX00 w h)) hown hK hw m_a0 o_a0 rfl 4 (by decide) (hts _ (List.mem_cons_of_mem _ (mr14 _ (List.mem_of_getElem? (i := 7) rfl)))) (fun _ h => h) tyX0 tyX0_ok nmX0 rfl (ty := .int) (by decide +kernel) rfl rfl dX0_copyFrom_37 (fun H locs hw => ?_)
  have oo := o_a0
  obtain ⟨f_10, ef_10⟩ : ∃ g : Nat → va_E, g = pU f_8 a0 4 (.int (iI x_9)) := ⟨_, rfl⟩
  have hX : Ex cy f_8 f_10 := by rw [ef_10]; exact Ex_pU oo rfl rfl (by decide)
  have hg : GI cy L0 f_10 := by rw [ef_10]; exact hg.putI oo rfl ⟨lx_9, ux_9⟩ trivial
  rw [← ef_10] at hw
  have hE := hE.trans hX
  have o_a0 := hX.1.1 _ _ o_a0
  have o_a1 := hX.1.1 _ _ o_a1
  have vf_10 : fI f_10 a0 4 = x_9 := by rw [ef_10]; exact fI_pU_self oo rfl ⟨lx_9, ux_9⟩
  have cp := cp.put ne oo ob1 rfl ef_10 gx
  have hF := hF.pU oo rfl rfl ef_10 rfl
  have hR : Fr0 f0 f_10 := fun y j => Eq.trans (by rw [ef_10]; exact aR_pU oo) (hR y j)
  have hC := hC.pU oo ef_10 (by decide) (by decide)
  refine lv_aload_n hx hb dX0_copyFrom_40 rfl (lv_at hl 0 rfl) ?_
  refine lv_aload_n hx hb dX0_copyFrom_41 rfl (lv_at hl 1 rfl) ?_
  refine q_geti (ci := 0) (C := RX0) (T := TX0) (N := 15) hx hb hts (fun w h => List.mem_cons_of_mem _ (mfX00 w h)) hown hK hw m_a1 o_a1 rfl 5 (by decide) (hts _ (List.mem_cons_of_mem _ (mr14 _ (List.mem_of_getElem? (i := 8) rfl)))) (fun _ h => h) rfl dX0_copyFrom_42 (fun x_11 lx_11 ux_11 ex_11 => ?_)
  have gx := ex_11
  have ob1 := o_a1
  refine q_puti (ci := 0) (C := RX0) (T := TX0) (N := 15) hx hb hts (fun w h => List.mem_cons_of_mem _ (mfX00 w h)) hown hK hw m_a0 o_a0 rfl 5 (by decide) (hts _ (List.mem_cons_of_mem _ (mr14 _ (List.mem_of_getElem? (i := 8) rfl)))) (fun _ h => h) tyX0 tyX0_ok nmX0 rfl (ty := .int) (by decide +kernel) rfl rfl dX0_copyFrom_45 (fun H locs hw => ?_)
  have oo := o_a0
  obtain ⟨f_12, ef_12⟩ : ∃ g : Nat → va_E, g = pU f_10 a0 5 (.int (iI x_11)) := ⟨_, rfl⟩
  have hX : Ex cy f_10 f_12 := by rw [ef_12]; exact Ex_pU oo rfl rfl (by decide)
  have hg : GI cy L0 f_12 := by rw [ef_12]; exact hg.putI oo rfl ⟨lx_11, ux_11⟩ trivial
  rw [← ef_12] at hw
  have hE := hE.trans hX
  have o_a0 := hX.1.1 _ _ o_a0
  have o_a1 := hX.1.1 _ _ o_a1
  have vf_12 : fI f_12 a0 5 = x_11 := by rw [ef_12]; exact fI_pU_self oo rfl ⟨lx_11, ux_11⟩
  have cp := cp.put ne oo ob1 rfl ef_12 gx
  have hF := hF.pU oo rfl rfl ef_12 rfl
  have hR : Fr0 f0 f_12 := fun y j => Eq.trans (by rw [ef_12]; exact aR_pU oo) (hR y j)
  have hC := hC.pU oo ef_12 (by decide) (by decide)
  refine lv_aload_n hx hb dX0_copyFrom_48 rfl (lv_at hl 0 rfl) ?_
  refine lv_aload_n hx hb dX0_copyFrom_49 rfl (lv_at hl 1 rfl) ?_
  refine q_geti (ci := 0) (C := RX0) (T := TX0) (N := 15) hx hb hts (fun w h => List.mem_cons_of_mem _ (mfX00 w h)) hown hK hw m_a1 o_a1 rfl 6 (by decide) (hts _ (List.mem_cons_of_mem _ (mr14 _ (List.mem_of_getElem? (i := 6) rfl)))) (fun _ h => h) rfl dX0_copyFrom_50 (fun x_13 lx_13 ux_13 ex_13 => ?_)
  have gx := ex_13
  have ob1 := o_a1
  refine q_puti (ci := 0) (C := RX0) (T := TX0) (N := 15) hx hb hts (fun w h => List.mem_cons_of_mem _ (mfX00 w h)) hown hK hw m_a0 o_a0 rfl 6 (by decide) (hts _ (List.mem_cons_of_mem _ (mr14 _ (List.mem_of_getElem? (i := 6) rfl)))) (fun _ h => h) tyX0 tyX0_ok nmX0 rfl (ty := .int) (by decide +kernel) rfl rfl dX0_copyFrom_53 (fun H locs hw => ?_)
  have oo := o_a0
  obtain ⟨f_14, ef_14⟩ : ∃ g : Nat → va_E, g = pU f_12 a0 6 (.int (iI x_13)) := ⟨_, rfl⟩
  have hX : Ex cy f_12 f_14 := by rw [ef_14]; exact Ex_pU oo rfl rfl (by decide)
  have hg : GI cy L0 f_14 := by rw [ef_14]; exact hg.putI oo rfl ⟨lx_13, ux_13⟩ trivial
  rw [← ef_14] at hw
  have hE := hE.trans hX
  have o_a0 := hX.1.1 _ _ o_a0
  have o_a1 := hX.1.1 _ _ o_a1
  have vf_14 : fI f_14 a0 6 = x_13 := by rw [ef_14]; exact fI_pU_self oo rfl ⟨lx_13, ux_13⟩
  have cp := cp.put ne oo ob1 rfl ef_14 gx
  have hF := hF.pU oo rfl rfl ef_14 rfl
  have hR : Fr0 f0 f_14 := fun y j => Eq.trans (by rw [ef_14]; exact aR_pU oo) (hR y j)
  have hC := hC.pU oo ef_14 (by decide) (by decide)
  refine lv_aload_n hx hb dX0_copyFrom_56 rfl (lv_at hl 0 rfl) ?_
  refine lv_aload_n hx hb dX0_copyFrom_57 rfl (lv_at hl 1 rfl) ?_
  refine q_geti (ci := 0) (C := RX0) (T := TX0) (N := 15) hx hb hts (fun w h => List.mem_cons_of_mem _ (mfX00 w h)) hown hK hw m_a1 o_a1 rfl 7 (by decide) (hts _ (List.mem_cons_of_mem _ (mr14 _ (List.mem_of_getElem? (i := 20) rfl)))) (fun _ h => h) rfl dX0_copyFrom_58 (fun x_15 lx_15 ux_15 ex_15 => ?_)
  have gx := ex_15
  have ob1 := o_a1
  refine q_puti (ci := 0) (C := RX0) (T := TX0) (N := 15) hx hb hts (fun w h => List.mem_cons_of_mem _ (mfX00 w h)) hown hK hw m_a0 o_a0 rfl 7 (by decide) (hts _ (List.mem_cons_of_mem _ (mr14 _ (List.mem_of_getElem? (i := 20) rfl)))) (fun _ h => h) tyX0 tyX0_ok nmX0 rfl (ty := .int) (by decide +kernel) rfl rfl dX0_copyFrom_61 (fun H locs hw => ?_)
  have oo := o_a0
  obtain ⟨f_16, ef_16⟩ : ∃ g : Nat → va_E, g = pU f_14 a0 7 (.int (iI x_15)) := ⟨_, rfl⟩
  have hX : Ex cy f_14 f_16 := by rw [ef_16]; exact Ex_pU oo rfl rfl (by decide)
  have hg : GI cy L0 f_16 := by rw [ef_16]; exact hg.putI oo rfl ⟨lx_15, ux_15⟩ trivial
  rw [← ef_16] at hw
  have hE := hE.trans hX
  have o_a0 := hX.1.1 _ _ o_a0
  have o_a1 := hX.1.1 _ _ o_a1
  have vf_16 : fI f_16 a0 7 = x_15 := by rw [ef_16]; exact fI_pU_self oo rfl ⟨lx_15, ux_15⟩
  have cp := cp.put ne oo ob1 rfl ef_16 gx
  have hF := hF.pU oo rfl rfl ef_16 rfl
  have hR : Fr0 f0 f_16 := fun y j => Eq.trans (by rw [ef_16]; exact aR_pU oo) (hR y j)
  have hC := hC.pU oo ef_16 (by decide) (by decide)
  refine lv_aload_n hx hb dX0_copyFrom_64 rfl (lv_at hl 0 rfl) ?_
  refine lv_aload_n hx hb dX0_copyFrom_65 rfl (lv_at hl 1 rfl) ?_
  refine q_geti (ci := 0) (C := RX0) (T := TX0) (N := 15) hx hb hts (fun w h => List.mem_cons_of_mem _ (mfX00 w h)) hown hK hw m_a1 o_a1 rfl 8 (by decide) (hts _ (List.mem_cons_of_mem _ (mr14 _ (List.mem_of_getElem? (i := 21) rfl)))) (fun _ h => h) rfl dX0_copyFrom_66 (fun x_17 lx_17 ux_17 ex_17 => ?_)
  have gx := ex_17
  have ob1 := o_a1
  refine q_puti (ci := 0) (C := RX0) (T := TX0) (N := 15) hx hb hts (fun w h => List.mem_cons_of_mem _ (mfX00 w h)) hown hK hw m_a0 o_a0 rfl 8 (by decide) (hts _ (List.mem_cons_of_mem _ (mr14 _ (List.mem_of_getElem? (i := 21) rfl)))) (fun _ h => h) tyX0 tyX0_ok nmX0 rfl (ty := .int) (by decide +kernel) rfl rfl dX0_copyFrom_69 (fun H locs hw => ?_)
  have oo := o_a0
  obtain ⟨f_18, ef_18⟩ : ∃ g : Nat → va_E, g = pU f_16 a0 8 (.int (iI x_17)) := ⟨_, rfl⟩
  have hX : Ex cy f_16 f_18 := by rw [ef_18]; exact Ex_pU oo rfl rfl (by decide)
  have hg : GI cy L0 f_18 := by rw [ef_18]; exact hg.putI oo rfl ⟨lx_17, ux_17⟩ trivial
  rw [← ef_18] at hw
  have hE := hE.trans hX
  have o_a0 := hX.1.1 _ _ o_a0
  have o_a1 := hX.1.1 _ _ o_a1
  have vf_18 : fI f_18 a0 8 = x_17 := by rw [ef_18]; exact fI_pU_self oo rfl ⟨lx_17, ux_17⟩
  have cp := cp.put ne oo ob1 rfl ef_18 gx
  have hF := hF.pU oo rfl rfl ef_18 rfl
  have hR : Fr0 f0 f_18 := fun y j => Eq.trans (by rw [ef_18]; exact aR_pU oo) (hR y j)
  have hC := hC.pU oo ef_18 (by decide) (by decide)
  refine lv_aload_n hx hb dX0_copyFrom_72 rfl (lv_at hl 0 rfl) ?_
  refine lv_aload_n hx hb dX0_copyFrom_73 rfl (lv_at hl 1 rfl) ?_
  refine q_geti (ci := 0) (C := RX0) (T := TX0) (N := 15) hx hb hts (fun w h => List.mem_cons_of_mem _ (mfX00 w h)) hown hK hw m_a1 o_a1 rfl 9 (by decide) (hts _ (List.mem_cons_of_mem _ (mr14 _ (List.mem_of_getElem? (i := 22) rfl)))) (fun _ h => h) rfl dX0_copyFrom_74 (fun x_19 lx_19 ux_19 ex_19 => ?_)
  have gx := ex_19
  have ob1 := o_a1
  refine q_puti (ci := 0) (C := RX0) (T := TX0) (N := 15) hx hb hts (fun w h => List.mem_cons_of_mem _ (mfX00 w h)) hown hK hw m_a0 o_a0 rfl 9 (by decide) (hts _ (List.mem_cons_of_mem _ (mr14 _ (List.mem_of_getElem? (i := 22) rfl)))) (fun _ h => h) tyX0 tyX0_ok nmX0 rfl (ty := .int) (by decide +kernel) rfl rfl dX0_copyFrom_77 (fun H locs hw => ?_)
  have oo := o_a0
  obtain ⟨f_20, ef_20⟩ : ∃ g : Nat → va_E, g = pU f_18 a0 9 (.int (iI x_19)) := ⟨_, rfl⟩
  have hX : Ex cy f_18 f_20 := by rw [ef_20]; exact Ex_pU oo rfl rfl (by decide)
  have hg : GI cy L0 f_20 := by rw [ef_20]; exact hg.putI oo rfl ⟨lx_19, ux_19⟩ trivial
  rw [← ef_20] at hw
  have hE := hE.trans hX
  have o_a0 := hX.1.1 _ _ o_a0
  have o_a1 := hX.1.1 _ _ o_a1
  have vf_20 : fI f_20 a0 9 = x_19 := by rw [ef_20]; exact fI_pU_self oo rfl ⟨lx_19, ux_19⟩
  have cp := cp.put ne oo ob1 rfl ef_20 gx
  have hF := hF.pU oo rfl rfl ef_20 rfl
  have hR : Fr0 f0 f_20 := fun y j => Eq.trans (by rw [ef_20]; exact aR_pU oo) (hR y j)
  have hC := hC.pU oo ef_20 (by decide) (by decide)
  refine lv_aload_n hx hb dX0_copyFrom_80 rfl (lv_at hl 0 rfl) ?_
  refine lv_aload_n hx hb dX0_copyFrom_81 rfl (lv_at hl 1 rfl) ?_
  refine q_geti (ci := 0) (C := RX0) (T := TX0) (N := 15) hx hb hts (fun w h => List.mem_cons_of_mem _ (mfX00 w h)) hown hK hw m_a1 o_a1 rfl 10 (by decide) (hts _ (List.mem_cons_of_mem _ (mr14 _ (List.mem_of_getElem? (i := 9) rfl)))) (fun _ h => h) rfl dX0_copyFrom_82 (fun x_21 lx_21 ux_21 ex_21 => ?_)
  have bx_21 : 0 ≤ x_21 ∧ x_21 ≤ 16 := by rw [ex_21]; exact hg.1 _ m_a1 0 10 o_a1
  have gx := ex_21
  have ob1 := o_a1
  refine q_puti (ci := 0) (C := RX0) (T := TX0) (N := 15) hx hb hts (fun w h => List.mem_cons_of_mem _ (mfX00 w h)) hown hK hw m_a0 o_a0 rfl 10 (by decide) (hts _ (List.mem_cons_of_mem _ (mr14 _ (List.mem_of_getElem? (i := 9) rfl)))) (fun _ h => h) tyX0 tyX0_ok nmX0 rfl (ty := .int) (by decide +kernel) rfl rfl dX0_copyFrom_85 (fun H locs hw => ?_)
  have oo := o_a0
  obtain ⟨f_22, ef_22⟩ : ∃ g : Nat → va_E, g = pU f_20 a0 10 (.int (iI x_21)) := ⟨_, rfl⟩
  have hX : Ex cy f_20 f_22 := by rw [ef_22]; exact Ex_pU oo rfl rfl (by decide)
  have hg : GI cy L0 f_22 := by rw [ef_22]; exact hg.putI oo rfl ⟨lx_21, ux_21⟩ (by show 0 ≤ x_21 ∧ x_21 ≤ 16; omega)
  rw [← ef_22] at hw
  have hE := hE.trans hX
  have o_a0 := hX.1.1 _ _ o_a0
  have o_a1 := hX.1.1 _ _ o_a1
  have vf_22 : fI f_22 a0 10 = x_21 := by rw [ef_22]; exact fI_pU_self oo rfl ⟨lx_21, ux_21⟩
  have cp := cp.put ne oo ob1 rfl ef_22 gx
  have hF := hF.pU oo rfl rfl ef_22 rfl
  have hR : Fr0 f0 f_22 := fun y j => Eq.trans (by rw [ef_22]; exact aR_pU oo) (hR y j)
  have hC := hC.pU oo ef_22 (by decide) (by decide)
  refine lv_aload_n hx hb dX0_copyFrom_88 rfl (lv_at hl 1 rfl) ?_
  obtain ⟨r_23, er_23, m_r_23, o_r_23⟩ := (show ∃ r, fR f_22 a1 11 = some r ∧ r ∈ L0 ∧ ArI f_22 r cy.2.1 16 from hg.2.1 _ m_a1 0 11 o_a1)
  refine q_getr (ci := 0) (C := RX0) (T := TX0) (N := 15) hx hb hts (fun w h => List.mem_cons_of_mem _ (mfX00 w h)) hown hK hw m_a1 o_a1 rfl 11 (by decide) (hts _ (List.mem_cons_of_mem _ (mr3 _ (List.mem_of_getElem? (i := 2) rfl)))) (fun _ h => h) rfl er_23 dX0_copyFrom_89 ?_
  have k89 := KA_e er_23
  refine q_iconst hx hb dX0_copyFrom_92 ?_
  refine lv_aload_n hx hb dX0_copyFrom_93 rfl (lv_at hl 0 rfl) ?_
  obtain ⟨r_24, er_24, m_r_24, o_r_24⟩ := (show ∃ r, fR f_22 a0 11 = some r ∧ r ∈ L0 ∧ ArI f_22 r cy.2.1 16 from hg.2.1 _ m_a0 0 11 o_a0)
  refine q_getr (ci := 0) (C := RX0) (T := TX0) (N := 15) hx hb hts (fun w h => List.mem_cons_of_mem _ (mfX00 w h)) hown hK hw m_a0 o_a0 rfl 11 (by decide) (hts _ (List.mem_cons_of_mem _ (mr3 _ (List.mem_of_getElem? (i := 2) rfl)))) (fun _ h => h) rfl er_24 dX0_copyFrom_94 ?_
  have k94 := KA_e er_24
  refine q_iconst hx hb dX0_copyFrom_97 ?_
  refine q_bipush hx hb dX0_copyFrom_98 rfl ?_
  refine q_copyv (n := 16) hx hb (hml.trans hl.1.symm) hown (hts _ (List.mem_cons_of_mem _ (mr40 _ (List.mem_of_getElem? (i := 20) rfl)))) (hts _ (List.mem_cons_of_mem _ (mr40 _ (List.mem_of_getElem? (i := 21) rfl)))) (hts _ (List.mem_cons_of_mem _ (mr40 _ (List.mem_of_getElem? (i := 22) rfl)))) (hts _ (List.mem_cons_of_mem _ (mr40 _ (List.mem_of_getElem? (i := 23) rfl)))) hK hw 1 (by decide) m_r_23 o_r_23 m_r_24 o_r_24 rfl (by decide) (by decide) (Nat.le_of_ble_eq_true rfl) (Nat.le_of_ble_eq_true rfl) dX0_copyFrom_100 (fun gg H locs hcp hw => ?_)
  have oo := o_r_24
  obtain ⟨f_25, ef_25⟩ : ∃ g : Nat → va_E, g = aX f_22 r_24 gg := ⟨_, rfl⟩
  have hX : Ex cy f_22 f_25 := by rw [ef_25]; exact Ex_aX oo
  have hg : GI cy L0 f_25 := by rw [ef_25]; exact hg.putX oo
  rw [← ef_25] at hw
  have hE := hE.trans hX
  have o_a0 := hX.1.1 _ _ o_a0
  have o_a1 := hX.1.1 _ _ o_a1
  have cp := cp.aX oo ef_25
  have hF := hF.aX oo ef_25
  have hR : Fr0 f0 f_25 := fun y j => Eq.trans (by rw [ef_25]; exact aR_aX oo) (hR y j)
  have hk := co_k hC ne adj ef_25 hcp k94 k89
  have hC := hC.aX oo ef_25 (Or.inl k94)
  refine lv_aload_n hx hb dX0_copyFrom_103 rfl (lv_at hl 1 rfl) ?_
  obtain ⟨r_26, er_26, m_r_26, o_r_26⟩ := (show ∃ r, fR f_25 a1 12 = some r ∧ r ∈ L0 ∧ ArI f_25 r cy.2.1 16 from hg.2.1 _ m_a1 0 12 o_a1)
  refine q_getr (ci := 0) (C := RX0) (T := TX0) (N := 15) hx hb hts (fun w h => List.mem_cons_of_mem _ (mfX00 w h)) hown hK hw m_a1 o_a1 rfl 12 (by decide) (hts _ (List.mem_cons_of_mem _ (mr3 _ (List.mem_of_getElem? (i := 3) rfl)))) (fun _ h => h) rfl er_26 dX0_copyFrom_104 ?_
  have k104 := TA_e er_26
  refine q_iconst hx hb dX0_copyFrom_107 ?_
  refine lv_aload_n hx hb dX0_copyFrom_108 rfl (lv_at hl 0 rfl) ?_
  obtain ⟨r_27, er_27, m_r_27, o_r_27⟩ := (show ∃ r, fR f_25 a0 12 = some r ∧ r ∈ L0 ∧ ArI f_25 r cy.2.1 16 from hg.2.1 _ m_a0 0 12 o_a0)
  refine q_getr (ci := 0) (C := RX0) (T := TX0) (N := 15) hx hb hts (fun w h => List.mem_cons_of_mem _ (mfX00 w h)) hown hK hw m_a0 o_a0 rfl 12 (by decide) (hts _ (List.mem_cons_of_mem _ (mr3 _ (List.mem_of_getElem? (i := 3) rfl)))) (fun _ h => h) rfl er_27 dX0_copyFrom_109 ?_
  have k109 := TA_e er_27
  refine q_iconst hx hb dX0_copyFrom_112 ?_
  refine q_bipush hx hb dX0_copyFrom_113 rfl ?_
  refine q_copyv (n := 16) hx hb (hml.trans hl.1.symm) hown (hts _ (List.mem_cons_of_mem _ (mr40 _ (List.mem_of_getElem? (i := 20) rfl)))) (hts _ (List.mem_cons_of_mem _ (mr40 _ (List.mem_of_getElem? (i := 21) rfl)))) (hts _ (List.mem_cons_of_mem _ (mr40 _ (List.mem_of_getElem? (i := 22) rfl)))) (hts _ (List.mem_cons_of_mem _ (mr40 _ (List.mem_of_getElem? (i := 23) rfl)))) hK hw 1 (by decide) m_r_26 o_r_26 m_r_27 o_r_27 rfl (by decide) (by decide) (Nat.le_of_ble_eq_true rfl) (Nat.le_of_ble_eq_true rfl) dX0_copyFrom_115 (fun gg H locs hcp hw => ?_)
  have oo := o_r_27
  obtain ⟨f_28, ef_28⟩ : ∃ g : Nat → va_E, g = aX f_25 r_27 gg := ⟨_, rfl⟩
  have hX : Ex cy f_25 f_28 := by rw [ef_28]; exact Ex_aX oo
  have hg : GI cy L0 f_28 := by rw [ef_28]; exact hg.putX oo
  rw [← ef_28] at hw
  have hE := hE.trans hX
  have o_a0 := hX.1.1 _ _ o_a0
  have o_a1 := hX.1.1 _ _ o_a1
  have cp := cp.aX oo ef_28
  have hF := hF.aX oo ef_28
  have hR : Fr0 f0 f_28 := fun y j => Eq.trans (by rw [ef_28]; exact aR_aX oo) (hR y j)
  have ht := co_t hC ne adj ef_28 hcp k109 k104
  have hk2 : ∀ j : Int, 0 ≤ j → j < 16 → aI f_28 (KA f0 a0) j = aI f0 (KA f0 a1) j := fun j j0 j1 => Eq.trans (by rw [ef_28]; unfold aI; rw [aX_ne (fun z => na (by rw [z, k109]; exact (hC.ka a0).2))]) (hk j j0 j1)
  have hC := hC.aX oo ef_28 (Or.inr k109)
  exact q_ret_v hx hb hr hlocks hK hAe hw (Nat.le_of_ble_eq_true rfl) (Nat.le_of_ble_eq_true rfl) dX0_copyFrom_118 (by exact ⟨rfl, hg, hE, ⟨hF, hR, cp.1⟩, hC, hk2, ht⟩)
set_option maxHeartbeats 4000000 in
set_option maxRecDepth 100000 in
theorem c_X0_cutInto_o {Z : Zt} (zo : Zok Z) (l : Launch) (D : va_G) (cy : Cy) (L0 : List Nat) (f0 : Nat → va_E) (a0 : Nat) (a1 : Nat) (x2 : Int) (lx2 : -2147483648 ≤ x2) (ux2 : x2 ≤ 2147483647) (m_a0 : a0 ∈ L0) (o_a0 : Ob f0 a0 0) (m_a1 : a1 ∈ L0) (o_a1 : Ob f0 a1 0) (hg : GI cy L0 f0) (ne : a1 ≠ a0) (g : Int → Int) (p0 : Int) (rb : RB f0 a0 g p0) (k1 : ∃ d : Int, d < x2 ∧ KG g p0 d) (k2 : ∃ d : Int, x2 ≤ d ∧ KG g p0 d) (O : Int → Int) (oc : OC f0 a0 O) (adj : AD f0 a0 a1) (na : KA f0 a0 ≠ TA f0 a0) (na1 : KA f0 a1 ≠ TA f0 a1) : Cv Z l yX0_cutInto (Cond.code yX0_cutInto cX0_cutInto 4 none :: TB) ({ frames := 5, cells := 0, slots := 0, locals := 113 } : Room) 0 0 D (tq cy) [.ref a0, .ref a1, .int (iI x2)] L0 f0 (fun (L1 : List Nat) (f1 : Nat → va_E) => L0 = L1 ∧ GI cy L0 f1 ∧ Ex cy f0 f1 ∧ ((Fo (fun y => y = a0 ∨ y = a1) cy f0 f1 ∧ Fr0 f0 f1 ∧ RB f1 a0 (HWd g p0 x2) p0 ∧ RB f1 a1 (TWd g p0 x2) p0) ∧ OC f1 a0 (cutH O x2) ∧ OC f1 a1 (cutT O x2) ∧ Em (fun y => y = a0 ∨ y = a1) f0 f1)) := by
  refine Cv.enter (cc := cX0_cutInto) (n := 4) rfl (plainFor_of_name (by decide)) (Nat.le_of_ble_eq_true rfl) ?_
  intro p e s m below meth c ls A hx hb hr hts hown hlocks hnm hml hK hA hAe hw hZ hl
  have hown : s.vm.findClass RX0 = some m.cls := hown
  have hl : lv_has ls 4 [(0, .ref a0), (1, .ref a1), (2, .int (iI x2))] := hl
  have hN : ZN s := (zo.2.2.2.2 _ _ _ hZ).2
  have hE : Ex cy f0 f0 := Ex.refl cy f0
  have kc := KG.cut rb.2.1 rb.1.2.2 k1 k2
  have cpt := cn_pos (p := KG g p0) (a := 0) (b := 36525)
  have u9 : updW g (p0 + 10) x2 (p0 + 9) = g (p0 + 9) := updW_n (by omega)
  have gb := rb.1.2.2
  have gb4 := gb.2.2.2.1
  have gb5 := gb.2.2.2.2.1
  have ob1 := o_a1
  have s0 : 0 ≤ g (p0 + 5) ∧ g (p0 + 5) ≤ 36524 := by obtain ⟨_, _, q⟩ := rb.rule; exact q.st
  have bb : 0 ≤ fI f0 a0 10 ∧ fI f0 a0 10 ≤ 16 := hg.1 _ m_a0 0 10 o_a0
  have ao1 : AO cy f0 a1 := AO.of hg m_a1 o_a1
  refine lv_aload_n hx hb dX0_cutInto_0 rfl (lv_at hl 1 rfl) ?_
  refine lv_aload_n hx hb dX0_cutInto_1 rfl (lv_at hl 0 rfl) ?_
  refine q_call_v hA hK hw (va_runV (As := [.ref a0]) (rest := []) ⟨hx, hb, hml, hown, hts⟩ (c_X0_copyFrom_o zo l D cy L0 f0 a1 a0 m_a1 o_a1 m_a0 o_a0 hg ne.symm adj na1 _) (cwV 1 hts (gT (inV (mr40 _ (List.mem_of_getElem? (i := 15) rfl)) (mr40 _ (List.mem_of_getElem? (i := 16) rfl)) (mr40 _ (List.mem_of_getElem? (i := 17) rfl)) (mr2 _ (List.mem_of_getElem? (i := 9) rfl)) (mr40 _ (List.mem_of_getElem? (i := 18) rfl)))) rfl rfl rfl (by decide +kernel) ⟨Nat.le_of_ble_eq_true rfl, Nat.le_of_ble_eq_true rfl⟩) (Wd.preV zo hA hZ hw hK m_a1 o_a1 rfl) rfl rfl hl.1 rfl (lv_room (Nat.le_of_ble_eq_true rfl)) dX0_cutInto_2 ⟨Nat.le_of_ble_eq_true rfl, Nat.le_of_ble_eq_true rfl⟩) (fun L1 f_2 H locs ex_1 hw => ?_)
  obtain ⟨rfl, hg, hX, ex_1⟩ := ex_1
  have hE := hE.trans hX
  have o_a0 := hX.1.1 _ _ o_a0
  have o_a1 := hX.1.1 _ _ o_a1
  obtain ⟨⟨hF2, hR, c2⟩, hC2, co2⟩ := ex_1
  have hF : Fo (fun y => y = a0 ∨ y = a1) cy f0 f_2 := hF2.mono (fun y h => Or.inr h)
  have rt0 : RB f_2 a1 g p0 := rb.copy c2 (fun q k n s v w h => h.fo hF2 (nrl ob1))
  have ra0 : RB f_2 a0 g p0 := rb.fo hF2 (fun z => ne z.symm) (nrl ob1)
  have rt := rt0.1
  have ra := ra0.1
  have oh : OC f_2 a0 O := oc.ec hC2 ne.symm adj
  have ot : OC f_2 a1 O := oc.copy co2 hC2 (c2 10 (by decide)) bb.2
  have hM : Em (fun y => y = a0 ∨ y = a1) f0 f_2 := (hC2.em ao1).mono (fun y h => Or.inr h)
  refine lv_aload_n hx hb dX0_cutInto_5 rfl (lv_at hl 1 rfl) ?_
  refine lv_iload_n hx hb dX0_cutInto_6 rfl (lv_at hl 2 rfl) ?_
  refine q_puti (ci := 0) (C := RX0) (T := TX0) (N := 15) hx hb hts (fun w h => List.mem_cons_of_mem _ (mfX00 w h)) hown hK hw m_a1 o_a1 rfl 6 (by decide) (hts _ (List.mem_cons_of_mem _ (mr14 _ (List.mem_of_getElem? (i := 6) rfl)))) (fun _ h => h) tyX0 tyX0_ok nmX0 rfl (ty := .int) (by decide +kernel) rfl rfl dX0_cutInto_7 (fun H locs hw => ?_)
  have oo := o_a1
  obtain ⟨f_3, ef_3⟩ : ∃ g : Nat → va_E, g = pU f_2 a1 6 (.int (iI x2)) := ⟨_, rfl⟩
  have hX : Ex cy f_2 f_3 := by rw [ef_3]; exact Ex_pU oo rfl rfl (by decide)
  have hg : GI cy L0 f_3 := by rw [ef_3]; exact hg.putI oo rfl ⟨lx2, ux2⟩ trivial
  rw [← ef_3] at hw
  have hE := hE.trans hX
  have o_a0 := hX.1.1 _ _ o_a0
  have o_a1 := hX.1.1 _ _ o_a1
  have vf_3 : fI f_3 a1 6 = x2 := by rw [ef_3]; exact fI_pU_self oo rfl ⟨lx2, ux2⟩
  have hF := hF.pU oo rfl rfl ef_3 (Or.inr rfl)
  have hR : Fr0 f0 f_3 := fun y j => Eq.trans (by rw [ef_3]; exact aR_pU oo) (hR y j)
  have rb2 : RB f_3 a0 g p0 := ra0.other oo rfl rfl ef_3 ne.symm
  have ra := ra.other oo rfl rfl ef_3 ne.symm
  have w9 := ra.1.2.2.2.2.1
  have rt := rt.put (off := 10) (x' := x2) oo rfl ⟨lx2, ux2⟩ ef_3 (by omega) rfl (rt.2.2.upd10 (by omega) (by omega))
  have oh := oh.pU oo ef_3 (by decide) (by decide) (by decide)
  have ot := ot.pU oo ef_3 (by decide) (by decide) (by decide)
  have hM := hM.pU oo ef_3 (Or.inr rfl) (by decide) (by decide)
  refine lv_aload_n hx hb dX0_cutInto_10 rfl (lv_at hl 0 rfl) ?_
  refine q_geti (ci := 0) (C := RX0) (T := TX0) (N := 15) hx hb hts (fun w h => List.mem_cons_of_mem _ (mfX00 w h)) hown hK hw m_a0 o_a0 rfl 5 (by decide) (hts _ (List.mem_cons_of_mem _ (mr14 _ (List.mem_of_getElem? (i := 8) rfl)))) (fun _ h => h) rfl dX0_cutInto_11 (fun x_4 lx_4 ux_4 ex_4 => ?_)
  refine q_iconst hx hb dX0_cutInto_14 ?_
  have J53 : ∀ (L : List Nat) (fw53 : Nat → va_E) (hg : GI cy L0 fw53) (hE : Ex cy f0 fw53) (o_a0 : Ob fw53 a0 0) (o_a1 : Ob fw53 a1 0) (hF : Fo (fun y => y = a0 ∨ y = a1) cy f0 fw53) (hR : Fr0 f0 fw53) (ra : RW fw53 a0 (HWd g p0 x2) p0) (rt : RW fw53 a1 (TWd g p0 x2) p0) (oh : OC fw53 a0 O) (ot : OC fw53 a1 O) (hM : Em (fun y => y = a0 ∨ y = a1) f0 fw53) (H : Heap) (locs : List Loc) (ls : Array Slot) (hw : Wd D A s.heap L0 fw53 H locs) (hl : lv_has ls 4 [(0, .ref a0), (1, .ref a1), (2, .int (iI x2))]), W p l e ({ frames := 5, cells := 0, slots := 0, locals := 113 } : Room) s m ([.ref a0, .ref a1, .int (iI x2)] : List Value).toArray below meth c H locs (0 + 0) (0 + 0) (MQ below (Qv D (tq cy) L0 f0 s.heap.size (fun (L1 : List Nat) (f1 : Nat → va_E) => L0 = L1 ∧ GI cy L0 f1 ∧ Ex cy f0 f1 ∧ ((Fo (fun y => y = a0 ∨ y = a1) cy f0 f1 ∧ Fr0 f0 f1 ∧ RB f1 a0 (HWd g p0 x2) p0 ∧ RB f1 a1 (TWd g p0 x2) p0) ∧ OC f1 a0 (cutH O x2) ∧ OC f1 a1 (cutT O x2) ∧ Em (fun y => y = a0 ∨ y = a1) f0 f1))) ([.ref a0, .ref a1, .int (iI x2)] : List Value).toArray s 0 0 A) (F0 m 53 ls []) := by
    intro L fw53 hg hE o_a0 o_a1 hF hR ra rt oh ot hM H locs ls hw hl
    refine q_bipush hx hb dX0_cutInto_53 rfl ?_
    refine lv_istore_n (lv' := [(3, .int (iI 15)), (0, .ref a0), (1, .ref a1), (2, .int (iI x2))]) hx hb dX0_cutInto_55 rfl hl (by decide) rfl (fun ls hl => ?_)
    have J56 : ∀ (n56 : Nat) (y3_56 : Int) (ly3_56 : -2147483648 ≤ y3_56) (uy3_56 : y3_56 ≤ 2147483647) (L : List Nat) (fw56 : Nat → va_E) (hg : GI cy L0 fw56) (hE : Ex cy f0 fw56) (o_a0 : Ob fw56 a0 0) (o_a1 : Ob fw56 a1 0) (i1 : -1 ≤ y3_56) (i2 : y3_56 ≤ 15) (hF : Fo (fun y => y = a0 ∨ y = a1) cy f0 fw56) (hR : Fr0 f0 fw56) (ra : RW fw56 a0 (HWd g p0 x2) p0) (rt : RW fw56 a1 (TWd g p0 x2) p0) (oh : HX (fun k => x2 ≤ k) f0 fw56 a0 O y3_56) (ot : HX (fun k => k < x2) f0 fw56 a1 O y3_56) (hM : Em (fun y => y = a0 ∨ y = a1) f0 fw56) (hn56 : (y3_56 + (2147483648 : Int)).toNat < n56) (H : Heap) (locs : List Loc) (ls : Array Slot) (hw : Wd D A s.heap L0 fw56 H locs) (hl : lv_has ls 4 [(0, .ref a0), (1, .ref a1), (2, .int (iI x2)), (3, .int (iI y3_56))]), W p l e ({ frames := 5, cells := 0, slots := 0, locals := 113 } : Room) s m ([.ref a0, .ref a1, .int (iI x2)] : List Value).toArray below meth c H locs (0 + 0) (0 + 0) (MQ below (Qv D (tq cy) L0 f0 s.heap.size (fun (L1 : List Nat) (f1 : Nat → va_E) => L0 = L1 ∧ GI cy L0 f1 ∧ Ex cy f0 f1 ∧ ((Fo (fun y => y = a0 ∨ y = a1) cy f0 f1 ∧ Fr0 f0 f1 ∧ RB f1 a0 (HWd g p0 x2) p0 ∧ RB f1 a1 (TWd g p0 x2) p0) ∧ OC f1 a0 (cutH O x2) ∧ OC f1 a1 (cutT O x2) ∧ Em (fun y => y = a0 ∨ y = a1) f0 f1))) ([.ref a0, .ref a1, .int (iI x2)] : List Value).toArray s 0 0 A) (F0 m 56 ls []) := by
      intro n56
      induction n56 with
      | zero => intro y3_56 ly3_56 uy3_56 L fw56 hg hE o_a0 o_a1 i1 i2 hF hR ra rt oh ot hM hn56; exact absurd hn56 (Nat.not_lt_zero _)
      | succ n56 ih56 =>
        intro y3_56 ly3_56 uy3_56 L fw56 hg hE o_a0 o_a1 i1 i2 hF hR ra rt oh ot hM hn56 H locs ls hw hl
        refine lv_iload_n hx hb dX0_cutInto_56 rfl (lv_at hl 3 rfl) ?_
        refine q_if_lt (tgt := 112) hx hb dX0_cutInto_57 (by decide) ⟨ly3_56, uy3_56⟩ (fun c57 => ?_) (fun c57 => ?_)
        · refine lv_aload_n hx hb dX0_cutInto_112 rfl (lv_at hl 0 rfl) ?_
          have oa3 := o_a0
          have oh3 := oh.head (hM.ka a0).1 (by omega)
          have ot3 := ot.tail (hM.ka a1).1 (by omega)
          have ao3 : AO cy fw56 a0 := AO.of hg m_a0 o_a0
          refine q_call_v hA hK hw (va_runV (As := []) (rest := []) ⟨hx, hb, hml, hown, hts⟩ (c_X0_settle_g zo l D cy L0 fw56 a0 m_a0 o_a0 hg (HWd g p0 x2) p0 ra _) (cwV 0 hts (gT (inV (mr41 _ (List.mem_of_getElem? (i := 0) rfl)) (mr14 _ (List.mem_of_getElem? (i := 16) rfl)) (mr14 _ (List.mem_of_getElem? (i := 17) rfl)) (mr2 _ (List.mem_of_getElem? (i := 9) rfl)) (mr14 _ (List.mem_of_getElem? (i := 18) rfl)))) rfl rfl rfl (by decide +kernel) ⟨Nat.le_of_ble_eq_true rfl, Nat.le_of_ble_eq_true rfl⟩) (Wd.preV zo hA hZ hw hK m_a0 o_a0 rfl) rfl rfl hl.1 rfl (lv_room (Nat.le_of_ble_eq_true rfl)) dX0_cutInto_113 ⟨Nat.le_of_ble_eq_true rfl, Nat.le_of_ble_eq_true rfl⟩) (fun L1 f_6 H locs ex_5 hw => ?_)
          obtain ⟨rfl, hg, hX, ex_5⟩ := ex_5
          have hE := hE.trans hX
          have o_a0 := hX.1.1 _ _ o_a0
          have o_a1 := hX.1.1 _ _ o_a1
          obtain ⟨st3, ra3⟩ := ex_5
          have hF := hF.trans (st3.fo hX.1 oa3 (Or.inl rfl))
          have hR : Fr0 f0 f_6 := fun y j => (st3.fr hX.1 oa3 y j).trans (hR y j)
          have rt := rt.st hX.1 st3 oa3 ne
          have ob3 := o_a1
          have oh4 := st3.oc oa3 hX.1 oh3
          have ot4 := st3.oc oa3 hX.1 ot3
          have hM := hM.trans (((Ec.set st3 oa3 hX.1).em ao3).mono (fun y h => Or.inl h))
          have ao4 : AO cy f_6 a1 := AO.of hg m_a1 o_a1
          refine lv_aload_n hx hb dX0_cutInto_116 rfl (lv_at hl 1 rfl) ?_
          refine q_call_v hA hK hw (va_runV (As := []) (rest := []) ⟨hx, hb, hml, hown, hts⟩ (c_X0_settle_g zo l D cy L0 f_6 a1 m_a1 o_a1 hg (TWd g p0 x2) p0 rt _) (cwV 0 hts (gT (inV (mr41 _ (List.mem_of_getElem? (i := 0) rfl)) (mr14 _ (List.mem_of_getElem? (i := 16) rfl)) (mr14 _ (List.mem_of_getElem? (i := 17) rfl)) (mr2 _ (List.mem_of_getElem? (i := 9) rfl)) (mr14 _ (List.mem_of_getElem? (i := 18) rfl)))) rfl rfl rfl (by decide +kernel) ⟨Nat.le_of_ble_eq_true rfl, Nat.le_of_ble_eq_true rfl⟩) (Wd.preV zo hA hZ hw hK m_a1 o_a1 rfl) rfl rfl hl.1 rfl (lv_room (Nat.le_of_ble_eq_true rfl)) dX0_cutInto_117 ⟨Nat.le_of_ble_eq_true rfl, Nat.le_of_ble_eq_true rfl⟩) (fun L1 f_8 H locs ex_7 hw => ?_)
          obtain ⟨rfl, hg, hX, ex_7⟩ := ex_7
          have hE := hE.trans hX
          have o_a0 := hX.1.1 _ _ o_a0
          have o_a1 := hX.1.1 _ _ o_a1
          obtain ⟨st4, rt4⟩ := ex_7
          have hF := hF.trans (st4.fo hX.1 ob3 (Or.inr rfl))
          have hR : Fr0 f0 f_8 := fun y j => (st4.fr hX.1 ob3 y j).trans (hR y j)
          have ra4 := ra3.st hX.1 st4 ob3 ne.symm
          have oh5 := st4.oc ob3 hX.1 oh4
          have ot5 := st4.oc ob3 hX.1 ot4
          have hM := hM.trans (((Ec.set st4 ob3 hX.1).em ao4).mono (fun y h => Or.inr h))
          exact q_ret_v hx hb hr hlocks hK hAe hw (Nat.le_of_ble_eq_true rfl) (Nat.le_of_ble_eq_true rfl) dX0_cutInto_120 (by exact ⟨rfl, hg, hE, ⟨hF, hR, ra4, rt4⟩, oh5, ot5, hM⟩)
        · refine lv_iload_n hx hb dX0_cutInto_60 rfl (lv_at hl 3 rfl) ?_
          refine lv_aload_n hx hb dX0_cutInto_61 rfl (lv_at hl 1 rfl) ?_
          refine q_geti (ci := 0) (C := RX0) (T := TX0) (N := 15) hx hb hts (fun w h => List.mem_cons_of_mem _ (mfX00 w h)) hown hK hw m_a1 o_a1 rfl 10 (by decide) (hts _ (List.mem_cons_of_mem _ (mr14 _ (List.mem_of_getElem? (i := 9) rfl)))) (fun _ h => h) rfl dX0_cutInto_62 (fun x_9 lx_9 ux_9 ex_9 => ?_)
          have bx_9 : 0 ≤ x_9 ∧ x_9 ≤ 16 := by rw [ex_9]; exact hg.1 _ m_a1 0 10 o_a1
          have J83 : ∀ (L : List Nat) (fw83 : Nat → va_E) (hg : GI cy L0 fw83) (hE : Ex cy f0 fw83) (o_a0 : Ob fw83 a0 0) (o_a1 : Ob fw83 a1 0) (hF : Fo (fun y => y = a0 ∨ y = a1) cy f0 fw83) (hR : Fr0 f0 fw83) (ra : RW fw83 a0 (HWd g p0 x2) p0) (rt : RW fw83 a1 (TWd g p0 x2) p0) (oh : HX (fun k => x2 ≤ k) f0 fw83 a0 O y3_56) (ot : HX (fun k => k < x2) f0 fw83 a1 O (y3_56 - 1)) (hM : Em (fun y => y = a0 ∨ y = a1) f0 fw83) (H : Heap) (locs : List Loc) (ls : Array Slot) (hw : Wd D A s.heap L0 fw83 H locs) (hl : lv_has ls 4 [(0, .ref a0), (1, .ref a1), (2, .int (iI x2)), (3, .int (iI y3_56))]), W p l e ({ frames := 5, cells := 0, slots := 0, locals := 113 } : Room) s m ([.ref a0, .ref a1, .int (iI x2)] : List Value).toArray below meth c H locs (0 + 0) (0 + 0) (MQ below (Qv D (tq cy) L0 f0 s.heap.size (fun (L1 : List Nat) (f1 : Nat → va_E) => L0 = L1 ∧ GI cy L0 f1 ∧ Ex cy f0 f1 ∧ ((Fo (fun y => y = a0 ∨ y = a1) cy f0 f1 ∧ Fr0 f0 f1 ∧ RB f1 a0 (HWd g p0 x2) p0 ∧ RB f1 a1 (TWd g p0 x2) p0) ∧ OC f1 a0 (cutH O x2) ∧ OC f1 a1 (cutT O x2) ∧ Em (fun y => y = a0 ∨ y = a1) f0 f1))) ([.ref a0, .ref a1, .int (iI x2)] : List Value).toArray s 0 0 A) (F0 m 83 ls []) := by
            intro L fw83 hg hE o_a0 o_a1 hF hR ra rt oh ot hM H locs ls hw hl
            refine lv_iload_n hx hb dX0_cutInto_83 rfl (lv_at hl 3 rfl) ?_
            refine lv_aload_n hx hb dX0_cutInto_84 rfl (lv_at hl 0 rfl) ?_
            refine q_geti (ci := 0) (C := RX0) (T := TX0) (N := 15) hx hb hts (fun w h => List.mem_cons_of_mem _ (mfX00 w h)) hown hK hw m_a0 o_a0 rfl 10 (by decide) (hts _ (List.mem_cons_of_mem _ (mr14 _ (List.mem_of_getElem? (i := 9) rfl)))) (fun _ h => h) rfl dX0_cutInto_85 (fun x_10 lx_10 ux_10 ex_10 => ?_)
            have bx_10 : 0 ≤ x_10 ∧ x_10 ≤ 16 := by rw [ex_10]; exact hg.1 _ m_a0 0 10 o_a0
            have J106 : ∀ (L : List Nat) (fw106 : Nat → va_E) (hg : GI cy L0 fw106) (hE : Ex cy f0 fw106) (o_a0 : Ob fw106 a0 0) (o_a1 : Ob fw106 a1 0) (hF : Fo (fun y => y = a0 ∨ y = a1) cy f0 fw106) (hR : Fr0 f0 fw106) (ra : RW fw106 a0 (HWd g p0 x2) p0) (rt : RW fw106 a1 (TWd g p0 x2) p0) (oh : HX (fun k => x2 ≤ k) f0 fw106 a0 O (y3_56 - 1)) (ot : HX (fun k => k < x2) f0 fw106 a1 O (y3_56 - 1)) (hM : Em (fun y => y = a0 ∨ y = a1) f0 fw106) (H : Heap) (locs : List Loc) (ls : Array Slot) (hw : Wd D A s.heap L0 fw106 H locs) (hl : lv_has ls 4 [(0, .ref a0), (1, .ref a1), (2, .int (iI x2)), (3, .int (iI y3_56))]), W p l e ({ frames := 5, cells := 0, slots := 0, locals := 113 } : Room) s m ([.ref a0, .ref a1, .int (iI x2)] : List Value).toArray below meth c H locs (0 + 0) (0 + 0) (MQ below (Qv D (tq cy) L0 f0 s.heap.size (fun (L1 : List Nat) (f1 : Nat → va_E) => L0 = L1 ∧ GI cy L0 f1 ∧ Ex cy f0 f1 ∧ ((Fo (fun y => y = a0 ∨ y = a1) cy f0 f1 ∧ Fr0 f0 f1 ∧ RB f1 a0 (HWd g p0 x2) p0 ∧ RB f1 a1 (TWd g p0 x2) p0) ∧ OC f1 a0 (cutH O x2) ∧ OC f1 a1 (cutT O x2) ∧ Em (fun y => y = a0 ∨ y = a1) f0 f1))) ([.ref a0, .ref a1, .int (iI x2)] : List Value).toArray s 0 0 A) (F0 m 106 ls []) := by
              intro L fw106 hg hE o_a0 o_a1 hF hR ra rt oh ot hM H locs ls hw hl
              obtain ⟨x_11, lx_11, ux_11, hx_11, ex_11⟩ := q_inc y3_56 (-1)
              try (replace ex_11 : x_11 = y3_56 + (-1) := by omega)
              refine lv_iinc (v := iI x_11) (lv' := [(3, .int (iI x_11)), (0, .ref a0), (1, .ref a1), (2, .int (iI x2))]) hx hb dX0_cutInto_106 hl (k := 3) rfl hx_11 (by decide) rfl (fun ls hl => ?_)
              refine lv_goto (tgt := 56) hx hb dX0_cutInto_109 (by decide) ?_
              exact ih56 x_11 lx_11 ux_11 L0 fw106 hg hE o_a0 o_a1 (by omega) (by omega) (by exact hF) (by exact hR) (by exact ra) (by exact rt) (by first | exact HX.start oh (show 0 ≤ fI _ a0 10 ∧ fI _ a0 10 ≤ 16 from hg.1 _ m_a0 0 10 o_a0).2 (by omega) | exact oh.arg (by omega) | fail "none") (by first | exact HX.start ot (show 0 ≤ fI _ a1 10 ∧ fI _ a1 10 ≤ 16 from hg.1 _ m_a1 0 10 o_a1).2 (by omega) | exact ot.arg (by omega) | fail "none") (by exact hM) (by omega) _ _ _ hw (lv_sub hl [1, 2, 3, 0] rfl)
            refine q_icmp_ge (tgt := 106) hx hb dX0_cutInto_88 (by decide) ⟨ly3_56, uy3_56⟩ ⟨lx_10, ux_10⟩ (fun c88 => ?_) (fun c88 => ?_)
            · exact J106 L0 fw83 hg hE o_a0 o_a1 (by exact hF) (by exact hR) (by exact ra) (by exact rt) (by first | exact oh9 | exact oh.stay rfl (fun q => by show ¬ (x2 ≤ _); omega) | fail "none") (by first | exact ot | exact ot9 | fail "none") (by exact hM) _ _ _ hw (lv_sub hl [0, 1, 2, 3] rfl)
            · refine lv_aload_n hx hb dX0_cutInto_91 rfl (lv_at hl 0 rfl) ?_
              obtain ⟨r_12, er_12, m_r_12, o_r_12⟩ := (show ∃ r, fR fw83 a0 11 = some r ∧ r ∈ L0 ∧ ArI fw83 r cy.2.1 16 from hg.2.1 _ m_a0 0 11 o_a0)
              refine q_getr (ci := 0) (C := RX0) (T := TX0) (N := 15) hx hb hts (fun w h => List.mem_cons_of_mem _ (mfX00 w h)) hown hK hw m_a0 o_a0 rfl 11 (by decide) (hts _ (List.mem_cons_of_mem _ (mr3 _ (List.mem_of_getElem? (i := 2) rfl)))) (fun _ h => h) rfl er_12 dX0_cutInto_92 ?_
              have k92 := KA_e er_12
              refine lv_iload_n hx hb dX0_cutInto_95 rfl (lv_at hl 3 rfl) ?_
              refine q_iald hx hb hK hw m_r_12 1 o_r_12 rfl ⟨ly3_56, uy3_56⟩ (by omega) (by omega) dX0_cutInto_96 (fun x_13 lx_13 ux_13 ex_13 => ?_)
              have h96 : x_13 = aI fw83 (KA f0 a0) y3_56 := ex_13.trans (by rw [k92, (hM.ka a0).1])
              obtain ⟨Oa, oh1, oh2⟩ := id oh
              have ob9 := o_a0
              have ao9 : AO cy fw83 a0 := AO.of hg m_a0 o_a0
              refine lv_iload_n hx hb dX0_cutInto_97 rfl (lv_at hl 2 rfl) ?_
              refine q_icmp_lt (tgt := 106) hx hb dX0_cutInto_98 (by decide) ⟨lx_13, ux_13⟩ ⟨lx2, ux2⟩ (fun c98 => ?_) (fun c98 => ?_)
              · exact J106 L0 fw83 hg hE o_a0 o_a1 (by exact hF) (by exact hR) (by exact ra) (by exact rt) (by first | exact oh9 | exact oh.stay rfl (fun q => by show ¬ (x2 ≤ _); omega) | fail "none") (by first | exact ot | exact ot9 | fail "none") (by exact hM) _ _ _ hw (lv_sub hl [0, 1, 2, 3] rfl)
              · refine lv_aload_n hx hb dX0_cutInto_101 rfl (lv_at hl 0 rfl) ?_
                refine lv_iload_n hx hb dX0_cutInto_102 rfl (lv_at hl 3 rfl) ?_
                refine q_call_v hA hK hw (va_runV (As := [.int (iI y3_56)]) (rest := []) ⟨hx, hb, hml, hown, hts⟩ (c_X0_forget_o zo l D cy L0 fw83 a0 y3_56 ly3_56 uy3_56 m_a0 o_a0 hg Oa oh1 (by rw [(hM.ka a0).1, (hM.ka a0).2]; exact na) (by omega) (by omega) _) (cwV 1 hts (gT (inV (mr28 _ (List.mem_of_getElem? (i := 15) rfl)) (mr28 _ (List.mem_of_getElem? (i := 16) rfl)) (mr28 _ (List.mem_of_getElem? (i := 17) rfl)) (mr2 _ (List.mem_of_getElem? (i := 9) rfl)) (mr28 _ (List.mem_of_getElem? (i := 18) rfl)))) rfl rfl rfl (by decide +kernel) ⟨Nat.le_of_ble_eq_true rfl, Nat.le_of_ble_eq_true rfl⟩) (Wd.preV zo hA hZ hw hK m_a0 o_a0 rfl) rfl rfl hl.1 rfl (lv_room (Nat.le_of_ble_eq_true rfl)) dX0_cutInto_103 ⟨Nat.le_of_ble_eq_true rfl, Nat.le_of_ble_eq_true rfl⟩) (fun L1 f_15 H locs ex_14 hw => ?_)
                obtain ⟨rfl, hg, hX, ex_14⟩ := ex_14
                have hE := hE.trans hX
                have o_a0 := hX.1.1 _ _ o_a0
                have o_a1 := hX.1.1 _ _ o_a1
                have z103 := ex_14
                have oh9 := HX.gone (f0 := f0) (c' := y3_56 - 1) oh2 z103 (hM.ka a0).1 (by omega) rfl (by show x2 ≤ _; omega)
                have ot9 := ot.eo z103.1 ne (adj.ka (hM.ka a0) (hM.ka a1)).symm (hM.ka a1).1 (by omega)
                have hEf := z103.1.ef ob9 ao9
                have hF := hF.trans hEf.fo
                have hR : Fr0 f0 f_15 := fun y j => (hEf.2.2.2.1 y j).trans (hR y j)
                have ra := ra.ef hEf
                have rt := rt.ef hEf
                have hM := hM.trans ((z103.1.em ao9).mono (fun y h => Or.inl h))
                exact J106 L0 f_15 hg hE o_a0 o_a1 (by exact hF) (by exact hR) (by exact ra) (by exact rt) (by first | exact oh9 | exact oh.stay rfl (fun q => by show ¬ (x2 ≤ _); omega) | fail "none") (by first | exact ot | exact ot9 | fail "none") (by exact hM) _ _ _ hw (lv_sub hl [0, 1, 2, 3] rfl)
          refine q_icmp_ge (tgt := 83) hx hb dX0_cutInto_65 (by decide) ⟨ly3_56, uy3_56⟩ ⟨lx_9, ux_9⟩ (fun c65 => ?_) (fun c65 => ?_)
          · exact J83 L0 fw56 hg hE o_a0 o_a1 (by exact hF) (by exact hR) (by exact ra) (by exact rt) (by first | exact oh | exact oh8 | fail "none") (by first | exact ot8 | exact ot.stay rfl (fun q => by show ¬ (_ < x2); omega) | fail "none") (by exact hM) _ _ _ hw (lv_sub hl [0, 1, 2, 3] rfl)
          · refine lv_aload_n hx hb dX0_cutInto_68 rfl (lv_at hl 1 rfl) ?_
            obtain ⟨r_16, er_16, m_r_16, o_r_16⟩ := (show ∃ r, fR fw56 a1 11 = some r ∧ r ∈ L0 ∧ ArI fw56 r cy.2.1 16 from hg.2.1 _ m_a1 0 11 o_a1)
            refine q_getr (ci := 0) (C := RX0) (T := TX0) (N := 15) hx hb hts (fun w h => List.mem_cons_of_mem _ (mfX00 w h)) hown hK hw m_a1 o_a1 rfl 11 (by decide) (hts _ (List.mem_cons_of_mem _ (mr3 _ (List.mem_of_getElem? (i := 2) rfl)))) (fun _ h => h) rfl er_16 dX0_cutInto_69 ?_
            have k69 := KA_e er_16
            refine lv_iload_n hx hb dX0_cutInto_72 rfl (lv_at hl 3 rfl) ?_
            refine q_iald hx hb hK hw m_r_16 1 o_r_16 rfl ⟨ly3_56, uy3_56⟩ (by omega) (by omega) dX0_cutInto_73 (fun x_17 lx_17 ux_17 ex_17 => ?_)
            have h73 : x_17 = aI fw56 (KA f0 a1) y3_56 := ex_17.trans (by rw [k69, (hM.ka a1).1])
            obtain ⟨Ot, ot1, ot2⟩ := id ot
            have ob9 := o_a1
            have ao9 : AO cy fw56 a1 := AO.of hg m_a1 o_a1
            refine lv_iload_n hx hb dX0_cutInto_74 rfl (lv_at hl 2 rfl) ?_
            refine q_icmp_ge (tgt := 83) hx hb dX0_cutInto_75 (by decide) ⟨lx_17, ux_17⟩ ⟨lx2, ux2⟩ (fun c75 => ?_) (fun c75 => ?_)
            · exact J83 L0 fw56 hg hE o_a0 o_a1 (by exact hF) (by exact hR) (by exact ra) (by exact rt) (by first | exact oh | exact oh8 | fail "none") (by first | exact ot8 | exact ot.stay rfl (fun q => by show ¬ (_ < x2); omega) | fail "none") (by exact hM) _ _ _ hw (lv_sub hl [0, 1, 2, 3] rfl)
            · refine lv_aload_n hx hb dX0_cutInto_78 rfl (lv_at hl 1 rfl) ?_
              refine lv_iload_n hx hb dX0_cutInto_79 rfl (lv_at hl 3 rfl) ?_
              refine q_call_v hA hK hw (va_runV (As := [.int (iI y3_56)]) (rest := []) ⟨hx, hb, hml, hown, hts⟩ (c_X0_forget_o zo l D cy L0 fw56 a1 y3_56 ly3_56 uy3_56 m_a1 o_a1 hg Ot ot1 (by rw [(hM.ka a1).1, (hM.ka a1).2]; exact na1) (by omega) (by omega) _) (cwV 1 hts (gT (inV (mr28 _ (List.mem_of_getElem? (i := 15) rfl)) (mr28 _ (List.mem_of_getElem? (i := 16) rfl)) (mr28 _ (List.mem_of_getElem? (i := 17) rfl)) (mr2 _ (List.mem_of_getElem? (i := 9) rfl)) (mr28 _ (List.mem_of_getElem? (i := 18) rfl)))) rfl rfl rfl (by decide +kernel) ⟨Nat.le_of_ble_eq_true rfl, Nat.le_of_ble_eq_true rfl⟩) (Wd.preV zo hA hZ hw hK m_a1 o_a1 rfl) rfl rfl hl.1 rfl (lv_room (Nat.le_of_ble_eq_true rfl)) dX0_cutInto_80 ⟨Nat.le_of_ble_eq_true rfl, Nat.le_of_ble_eq_true rfl⟩) (fun L1 f_19 H locs ex_18 hw => ?_)
              obtain ⟨rfl, hg, hX, ex_18⟩ := ex_18
              have hE := hE.trans hX
              have o_a0 := hX.1.1 _ _ o_a0
              have o_a1 := hX.1.1 _ _ o_a1
              have z80 := ex_18
              have ot8 := HX.gone (f0 := f0) (c' := y3_56 - 1) ot2 z80 (hM.ka a1).1 (by omega) rfl (by show _ < x2; omega)
              have oh8 := oh.eo z80.1 ne.symm (adj.ka (hM.ka a0) (hM.ka a1)) (hM.ka a0).1 (by omega)
              have hEf := z80.1.ef ob9 ao9
              have hF := hF.trans hEf.fo
              have hR : Fr0 f0 f_19 := fun y j => (hEf.2.2.2.1 y j).trans (hR y j)
              have ra := ra.ef hEf
              have rt := rt.ef hEf
              have hM := hM.trans ((z80.1.em ao9).mono (fun y h => Or.inr h))
              exact J83 L0 f_19 hg hE o_a0 o_a1 (by exact hF) (by exact hR) (by exact ra) (by exact rt) (by first | exact oh | exact oh8 | fail "none") (by first | exact ot8 | exact ot.stay rfl (fun q => by show ¬ (_ < x2); omega) | fail "none") (by exact hM) _ _ _ hw (lv_sub hl [0, 1, 2, 3] rfl)
    exact J56 (((15 + (2147483648 : Int)).toNat) + 1) 15 (by decide) (by decide) L0 fw53 hg hE o_a0 o_a1 (by omega) (by omega) (by exact hF) (by exact hR) (by exact ra) (by exact rt) (by first | exact HX.start oh (show 0 ≤ fI _ a0 10 ∧ fI _ a0 10 ≤ 16 from hg.1 _ m_a0 0 10 o_a0).2 (by omega) | exact oh.arg (by omega) | fail "none") (by first | exact HX.start ot (show 0 ≤ fI _ a1 10 ∧ fI _ a1 10 ≤ 16 from hg.1 _ m_a1 0 10 o_a1).2 (by omega) | exact ot.arg (by omega) | fail "none") (by exact hM) (by omega) _ _ _ hw (lv_sub hl [1, 2, 3, 0] rfl)
  refine q_icmp_ne (tgt := 28) hx hb dX0_cutInto_15 (by decide) ⟨lx_4, ux_4⟩ ⟨by decide, by decide⟩ (fun c15 => ?_) (fun c15 => ?_)
  · refine lv_aload_n hx hb dX0_cutInto_28 rfl (lv_at hl 0 rfl) ?_
    refine lv_aload_n hx hb dX0_cutInto_29 rfl (lv_at hl 0 rfl) ?_
    refine q_iconst hx hb dX0_cutInto_30 ?_
    refine lv_iload_n hx hb dX0_cutInto_31 rfl (lv_at hl 2 rfl) ?_
    refine q_iconst hx hb dX0_cutInto_32 ?_
    first | refine q_isub hx hb dX0_cutInto_33 ⟨by omega, by omega⟩ (fun x_20 lx_20 ux_20 ex_20 => ?_) | refine q_isubw hx hb dX0_cutInto_33 (fun x_20 lx_20 ux_20 _ => ?_)
    refine q_call_i hA hK hw (va_runV (As := [.int (iI 0), .int (iI x_20)]) (rest := [.ref a0]) ⟨hx, hb, hml, hown, hts⟩ (c_X0_keysIn_g zo l D cy L0 f_3 a0 0 (by decide) (by decide) x_20 lx_20 ux_20 m_a0 o_a0 hg g p0 rb2 _) (cwV 2 hts (gT (inV (mr31 _ (List.mem_of_getElem? (i := 19) rfl)) (mr25 _ (List.mem_of_getElem? (i := 17) rfl)) (mr25 _ (List.mem_of_getElem? (i := 18) rfl)) (mr2 _ (List.mem_of_getElem? (i := 9) rfl)) (mr25 _ (List.mem_of_getElem? (i := 19) rfl)))) rfl rfl rfl (by decide +kernel) ⟨Nat.le_of_ble_eq_true rfl, Nat.le_of_ble_eq_true rfl⟩) (Wd.preV zo hA hZ hw hK m_a0 o_a0 rfl) rfl rfl hl.1 rfl (lv_room (Nat.le_of_ble_eq_true rfl)) dX0_cutInto_34 ⟨Nat.le_of_ble_eq_true rfl, Nat.le_of_ble_eq_true rfl⟩) (fun x_21 L1 f1 H locs lx_21 ux_21 ex_21 hw => ?_)
    obtain ⟨rfl, rfl, ex_21⟩ := ex_21
    have c34 : x_21 = cn (KG g p0) 0 x2 := ex_21.trans (by rw [show x_20 + 1 = x2 by omega])
    clear ex_21
    refine q_puti (ci := 0) (C := RX0) (T := TX0) (N := 15) hx hb hts (fun w h => List.mem_cons_of_mem _ (mfX00 w h)) hown hK hw m_a0 o_a0 rfl 5 (by decide) (hts _ (List.mem_cons_of_mem _ (mr14 _ (List.mem_of_getElem? (i := 8) rfl)))) (fun _ h => h) tyX0 tyX0_ok nmX0 rfl (ty := .int) (by decide +kernel) rfl rfl dX0_cutInto_37 (fun H locs hw => ?_)
    have oo := o_a0
    obtain ⟨f_22, ef_22⟩ : ∃ g : Nat → va_E, g = pU f_3 a0 5 (.int (iI x_21)) := ⟨_, rfl⟩
    have hX : Ex cy f_3 f_22 := by rw [ef_22]; exact Ex_pU oo rfl rfl (by decide)
    have hg : GI cy L0 f_22 := by rw [ef_22]; exact hg.putI oo rfl ⟨lx_21, ux_21⟩ trivial
    rw [← ef_22] at hw
    have hE := hE.trans hX
    have o_a0 := hX.1.1 _ _ o_a0
    have o_a1 := hX.1.1 _ _ o_a1
    have vf_22 : fI f_22 a0 5 = x_21 := by rw [ef_22]; exact fI_pU_self oo rfl ⟨lx_21, ux_21⟩
    have hF := hF.pU oo rfl rfl ef_22 (Or.inl rfl)
    have hR : Fr0 f0 f_22 := fun y j => Eq.trans (by rw [ef_22]; exact aR_pU oo) (hR y j)
    have rt := rt.other oo rfl rfl ef_22 ne
    have ra := ra.put (off := 9) (x' := cn (KG g p0) 0 x2) oo rfl ⟨by omega, by omega⟩ ef_22 (by omega) c34 (ra.2.2.upd9 (by omega) (by omega) (by omega))
    have tt : fI f_22 a0 9 = cn (KG g p0) 0 36525 := by rw [ef_22, fI_pU (Or.inr (by decide))]; exact rb2.2.2
    have oh := oh.pU oo ef_22 (by decide) (by decide) (by decide)
    have ot := ot.pU oo ef_22 (by decide) (by decide) (by decide)
    have hM := hM.pU oo ef_22 (Or.inl rfl) (by decide) (by decide)
    refine lv_aload_n hx hb dX0_cutInto_40 rfl (lv_at hl 1 rfl) ?_
    refine lv_aload_n hx hb dX0_cutInto_41 rfl (lv_at hl 0 rfl) ?_
    refine q_geti (ci := 0) (C := RX0) (T := TX0) (N := 15) hx hb hts (fun w h => List.mem_cons_of_mem _ (mfX00 w h)) hown hK hw m_a0 o_a0 rfl 9 (by decide) (hts _ (List.mem_cons_of_mem _ (mr14 _ (List.mem_of_getElem? (i := 22) rfl)))) (fun _ h => h) rfl dX0_cutInto_42 (fun x_23 lx_23 ux_23 ex_23 => ?_)
    refine lv_aload_n hx hb dX0_cutInto_45 rfl (lv_at hl 0 rfl) ?_
    refine q_geti (ci := 0) (C := RX0) (T := TX0) (N := 15) hx hb hts (fun w h => List.mem_cons_of_mem _ (mfX00 w h)) hown hK hw m_a0 o_a0 rfl 5 (by decide) (hts _ (List.mem_cons_of_mem _ (mr14 _ (List.mem_of_getElem? (i := 8) rfl)))) (fun _ h => h) rfl dX0_cutInto_46 (fun x_24 lx_24 ux_24 ex_24 => ?_)
    first | refine q_isub hx hb dX0_cutInto_49 ⟨by omega, by omega⟩ (fun x_25 lx_25 ux_25 ex_25 => ?_) | refine q_isubw hx hb dX0_cutInto_49 (fun x_25 lx_25 ux_25 _ => ?_)
    refine q_puti (ci := 0) (C := RX0) (T := TX0) (N := 15) hx hb hts (fun w h => List.mem_cons_of_mem _ (mfX00 w h)) hown hK hw m_a1 o_a1 rfl 5 (by decide) (hts _ (List.mem_cons_of_mem _ (mr14 _ (List.mem_of_getElem? (i := 8) rfl)))) (fun _ h => h) tyX0 tyX0_ok nmX0 rfl (ty := .int) (by decide +kernel) rfl rfl dX0_cutInto_50 (fun H locs hw => ?_)
    have oo := o_a1
    obtain ⟨f_26, ef_26⟩ : ∃ g : Nat → va_E, g = pU f_22 a1 5 (.int (iI x_25)) := ⟨_, rfl⟩
    have hX : Ex cy f_22 f_26 := by rw [ef_26]; exact Ex_pU oo rfl rfl (by decide)
    have hg : GI cy L0 f_26 := by rw [ef_26]; exact hg.putI oo rfl ⟨lx_25, ux_25⟩ trivial
    rw [← ef_26] at hw
    have hE := hE.trans hX
    have o_a0 := hX.1.1 _ _ o_a0
    have o_a1 := hX.1.1 _ _ o_a1
    have vf_26 : fI f_26 a1 5 = x_25 := by rw [ef_26]; exact fI_pU_self oo rfl ⟨lx_25, ux_25⟩
    have hF := hF.pU oo rfl rfl ef_26 (Or.inr rfl)
    have hR : Fr0 f0 f_26 := fun y j => Eq.trans (by rw [ef_26]; exact aR_pU oo) (hR y j)
    have ra := ra.other oo rfl rfl ef_26 ne.symm
    have rt := rt.put (off := 9) (x' := cn (KG g p0) 0 36525 - cn (KG g p0) 0 x2) oo rfl ⟨by omega, by omega⟩ ef_26 (by omega) (by omega) (rt.2.2.upd9 (by omega) (by omega) (by omega))
    have oh := oh.pU oo ef_26 (by decide) (by decide) (by decide)
    have ot := ot.pU oo ef_26 (by decide) (by decide) (by decide)
    have hM := hM.pU oo ef_26 (Or.inr rfl) (by decide) (by decide)
    exact J53 L0 f_26 hg hE o_a0 o_a1 (by exact hF) (by exact hR) (by first | (rw [HWd_u (show g (p0 + 9) < 0 by omega)]; exact ra) | (rw [HWd_t (show ¬ g (p0 + 9) < 0 by omega)]; exact ra) | fail "none") (by first | (rw [TWd_u (show g (p0 + 9) < 0 by omega)]; exact rt) | (rw [TWd_t (show ¬ g (p0 + 9) < 0 by omega)]; exact rt) | fail "none") (by exact oh) (by exact ot) (by exact hM) _ _ _ hw (lv_sub hl [0, 1, 2] rfl)
  · refine lv_aload_n hx hb dX0_cutInto_18 rfl (lv_at hl 0 rfl) ?_
    refine lv_iload_n hx hb dX0_cutInto_19 rfl (lv_at hl 2 rfl) ?_
    refine q_iconst hx hb dX0_cutInto_20 ?_
    first | refine q_isub hx hb dX0_cutInto_21 ⟨by omega, by omega⟩ (fun x_27 lx_27 ux_27 ex_27 => ?_) | refine q_isubw hx hb dX0_cutInto_21 (fun x_27 lx_27 ux_27 _ => ?_)
    refine q_puti (ci := 0) (C := RX0) (T := TX0) (N := 15) hx hb hts (fun w h => List.mem_cons_of_mem _ (mfX00 w h)) hown hK hw m_a0 o_a0 rfl 4 (by decide) (hts _ (List.mem_cons_of_mem _ (mr14 _ (List.mem_of_getElem? (i := 7) rfl)))) (fun _ h => h) tyX0 tyX0_ok nmX0 rfl (ty := .int) (by decide +kernel) rfl rfl dX0_cutInto_22 (fun H locs hw => ?_)
    have oo := o_a0
    obtain ⟨f_28, ef_28⟩ : ∃ g : Nat → va_E, g = pU f_3 a0 4 (.int (iI x_27)) := ⟨_, rfl⟩
    have hX : Ex cy f_3 f_28 := by rw [ef_28]; exact Ex_pU oo rfl rfl (by decide)
    have hg : GI cy L0 f_28 := by rw [ef_28]; exact hg.putI oo rfl ⟨lx_27, ux_27⟩ trivial
    rw [← ef_28] at hw
    have hE := hE.trans hX
    have o_a0 := hX.1.1 _ _ o_a0
    have o_a1 := hX.1.1 _ _ o_a1
    have vf_28 : fI f_28 a0 4 = x_27 := by rw [ef_28]; exact fI_pU_self oo rfl ⟨lx_27, ux_27⟩
    have hF := hF.pU oo rfl rfl ef_28 (Or.inl rfl)
    have hR : Fr0 f0 f_28 := fun y j => Eq.trans (by rw [ef_28]; exact aR_pU oo) (hR y j)
    have rt := rt.other oo rfl rfl ef_28 ne
    have ra := ra.put (off := 8) (x' := x2 - 1) oo rfl ⟨by omega, by omega⟩ ef_28 (by omega) (by omega) (ra.2.2.upd8 (by omega) (by omega) (by omega))
    have oh := oh.pU oo ef_28 (by decide) (by decide) (by decide)
    have ot := ot.pU oo ef_28 (by decide) (by decide) (by decide)
    have hM := hM.pU oo ef_28 (Or.inl rfl) (by decide) (by decide)
    refine lv_goto (tgt := 53) hx hb dX0_cutInto_25 (by decide) ?_
    exact J53 L0 f_28 hg hE o_a0 o_a1 (by exact hF) (by exact hR) (by first | (rw [HWd_u (show g (p0 + 9) < 0 by omega)]; exact ra) | (rw [HWd_t (show ¬ g (p0 + 9) < 0 by omega)]; exact ra) | fail "none") (by first | (rw [TWd_u (show g (p0 + 9) < 0 by omega)]; exact rt) | (rw [TWd_t (show ¬ g (p0 + 9) < 0 by omega)]; exact rt) | fail "none") (by exact oh) (by exact ot) (by exact hM) _ _ _ hw (lv_sub hl [0, 1, 2] rfl)
