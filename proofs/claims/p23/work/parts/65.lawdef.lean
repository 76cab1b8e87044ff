/-! ===== the law's world: the class's pool, the reference's, its own row ===== -/
def CMx (cy : Cy) (L : List Nat) (f : Nat → va_E) (a : Nat) (ad : Nat → Nat) : Prop := MS cy L f a ad ∧ MV f a ad ∧ MI f a ad ∧ DT f ad 36525 ∧ 0 ≤ fI f a 9 ∧ fI f a 9 ≤ 168 ∧ 0 ≤ fI f a 15 ∧ fI f a 15 ≤ 168
def LI (cy : Cy) (cL : ClassId) (D : va_G) (A : Nat → Prop) (H0 : Heap) (x mo o : Nat) (ad : Nat → Nat) (X : List Nat) (fx : Nat → va_E) (Mm : List Nat) (fm fo : Nat → va_E) (H : Heap) (locs : List Loc) : Prop :=
  Wd D A H0 X fx H locs ∧ Wd D A H0 Mm fm H locs ∧ Wd D A H0 [o] fo H locs ∧ (∀ y ∈ Mm, y ∉ X) ∧ (∀ y ∈ [o], y ∉ X) ∧ (∀ y ∈ [o], y ∉ Mm) ∧ x ∈ X ∧ Ob fx x 7 ∧ GI cy X fx ∧ CMx cy Mm fm mo ad ∧ ArL fo o cL ∧ CRO fx x fm mo ad
def LB (Z : Zt) (p : Program) (l : Launch) (s : State) (m : MethodId) (c : Code) (b Ln : Nat) (xs : Nat → Int32) (D : va_G) (cy : Cy) (cL : ClassId) (A : Nat → Prop) : Prop :=
  p.tables.exec = Jvm.exec ∧ c.code = cL_law ∧ c.maxLocals = 7 ∧ s.vm.findClass RL = some m.cls ∧ (∀ w ∈ (Cond.classLink RL 8 RX9 :: TB), w.before #[Value.ref b] s = true) ∧ va_X b Ln xs s s.heap ∧ b < s.heap.size ∧ va_K D vwCl (tl cy cL) s ∧ (∀ q : Nat, s.heap.size ≤ q → A q) ∧ ¬ A b ∧ Z A s s.heap ∧ l.stackTraces = false ∧ Ln ≤ 3584
theorem inSW {own : String} {idx : Nat} {y : MethodName} {w5 : Cond} (h1 : Cond.methodLink own idx y ∈ TB) (h2 : Cond.static y ∈ TB) (h4 : Cond.initialized y.cls ∈ TB) (h5 : w5 ∈ TB) : ∀ w ∈ va_wsS own idx y (w5 :: TB), w ∈ TB := by
  intro w hw
  rcases List.mem_append.mp hw with hw | hw
  · simp only [List.mem_cons, List.not_mem_nil, or_false] at hw
    rcases hw with rfl | rfl | rfl <;> assumption
  · exact inC h5 w hw
section QS
variable {p : Program} {l : Launch} {e : Env} {R : Room} {s : State} {m : MethodId} {args : Array Value} {below : List Frame} {meth : Method} {c : Code} {H : Heap} {locs : List Loc} {cells slots : Nat} {Q : State → Prop}
variable {cc : ByteArray} {pc : Nat} {ls : Array Slot} {rest : List Value} {A : Nat → Prop} {H0 : Heap}
theorem q_sld (hx : p.tables.exec = Jvm.exec) (hb : c.code = cc) {b L : Nat} {xs : Nat → Int32} (hX : va_X b L xs s H0) (hbl : b < H0.size) (hbA : ¬ A b) (hS : va_S A H0 H locs) {i : Int} (ri : rg i) (h0 : 0 ≤ i) (h1 : i < (L : Int)) (d : decode cc pc = .ok (.iaload, 1))
    (k : ∀ z : Int, -2147483648 ≤ z → z ≤ 2147483647 → z = (xs i.toNat).toInt → W p l e R s m args below meth c H locs cells slots Q (F0 m (pc + 1) ls (.int (iI z) :: rest))) : W p l e R s m args below meth c H locs cells slots Q (F0 m pc ls (.int (iI i) :: .ref b :: rest)) := by
  refine va_sld hx hb hX hbl hbA hS (iI_in ri h0 h1) d ?_
  rw [iI_nat ri]
  exact q_num k
theorem q_slen (hx : p.tables.exec = Jvm.exec) (hb : c.code = cc) {b L : Nat} {xs : Nat → Int32} (hX : va_X b L xs s H0) (hbl : b < H0.size) (hbA : ¬ A b) (hS : va_S A H0 H locs) (hL : L ≤ 3584) (d : decode cc pc = .ok (.arraylength, 1))
    (k : W p l e R s m args below meth c H locs cells slots Q (F0 m (pc + 1) ls (.int (iI (L : Int)) :: rest))) : W p l e R s m args below meth c H locs cells slots Q (F0 m pc ls (.ref b :: rest)) := by
  refine va_slen hx hb hX hbl hbA hS d ?_
  rw [show Int32.ofNat L = iI (L : Int) from rfl]
  exact k
end QS
