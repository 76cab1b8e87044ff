/-! ===== the rows' array types; more rows ===== -/
abbrev Cy : Type := ClassId × ClassId × ClassId × ClassId × ClassId
abbrev tq (cy : Cy) : List (ClassId × FieldType) := [(cy.1, .char), (cy.2.1, .int), (cy.2.2.1, .boolean), (cy.2.2.2.1, .object "BookIndex$Booking"), (cy.2.2.2.2, .object "BookIndex$Shelf")]
section QM
variable {p : Program} {l : Launch} {e : Env} {R : Room} {s : State} {m : MethodId} {args : Array Value} {below : List Frame} {meth : Method} {c : Code} {H : Heap} {locs : List Loc} {cells slots : Nat} {Q : State → Prop}
variable {cc : ByteArray} {pc : Nat} {ls : Array Slot} {rest : List Value}
theorem q_ldc (hx : p.tables.exec = Jvm.exec) (hb : c.code = cc) {own : String} {index : Nat} {v : Int32} {n : Int} (hown : s.vm.findClass own = some m.cls) (hc : (Jvm.Cond.constant own index v).before args s = true) (hv : v = iI n) (d : decode cc pc = .ok (.ldc index, 2)) (k : W p l e R s m args below meth c H locs cells slots Q (F0 m (pc + 2) ls (.int (iI n) :: rest))) : W p l e R s m args below meth c H locs cells slots Q (F0 m pc ls rest) := lv_ldc hx hb hown hc d (by rw [hv]; exact k)
theorem q_max (hx : p.tables.exec = Jvm.exec) (hb : c.code = cc) (hml : c.maxLocals = ls.size) {own : String} {index : Nat} (hown : s.vm.findClass own = some m.cls) (h1 : (Cond.methodLink own index Lib.Math.max.name).before args s = true) (h2 : (Cond.static Lib.Math.max.name).before args s = true) (h3 : (Cond.initialized "java/lang/Math").before args s = true) (h4 : (Cond.code Lib.Math.max.name Lib.Math.max.code 2 (some .int)).before args s = true) (h5 : 1 ≤ R.frames) (h6 : (rest.map fun v => v.category).sum + 13 ≤ R.locals) (h7 : cells ≤ R.cells) (h8 : slots ≤ R.slots) {x y : Int} (rx : rg x) (ry : rg y) (d : decode cc pc = .ok (.invokestatic index, 3))
    (k : ∀ z : Int, -2147483648 ≤ z → z ≤ 2147483647 → (x < y ∧ z = y ∨ y ≤ x ∧ z = x) → W p l e R s m args below meth c H locs cells slots Q (F0 m (pc + 3) ls (.int (iI z) :: rest))) : W p l e R s m args below meth c H locs cells slots Q (F0 m pc ls (.int (iI y) :: .int (iI x) :: rest)) := by
  refine va_mmax hx hb hml hown h1 h2 h3 h4 h5 h6 h7 h8 d ?_
  by_cases h : x < y
  · rw [if_pos ((iI_lt rx ry).mpr h)]
    exact k y ry.1 ry.2 (Or.inl ⟨h, rfl⟩)
  · rw [if_neg (fun q => h ((iI_lt rx ry).mp q))]
    exact k x rx.1 rx.2 (Or.inr ⟨Int.not_lt.mp h, rfl⟩)
theorem q_min (hx : p.tables.exec = Jvm.exec) (hb : c.code = cc) (hml : c.maxLocals = ls.size) {own : String} {index : Nat} (hown : s.vm.findClass own = some m.cls) (h1 : (Cond.methodLink own index Lib.Math.min.name).before args s = true) (h2 : (Cond.static Lib.Math.min.name).before args s = true) (h3 : (Cond.initialized "java/lang/Math").before args s = true) (h4 : (Cond.code Lib.Math.min.name Lib.Math.min.code 2 (some .int)).before args s = true) (h5 : 1 ≤ R.frames) (h6 : (rest.map fun v => v.category).sum + 13 ≤ R.locals) (h7 : cells ≤ R.cells) (h8 : slots ≤ R.slots) {x y : Int} (rx : rg x) (ry : rg y) (d : decode cc pc = .ok (.invokestatic index, 3))
    (k : ∀ z : Int, -2147483648 ≤ z → z ≤ 2147483647 → (y < x ∧ z = y ∨ x ≤ y ∧ z = x) → W p l e R s m args below meth c H locs cells slots Q (F0 m (pc + 3) ls (.int (iI z) :: rest))) : W p l e R s m args below meth c H locs cells slots Q (F0 m pc ls (.int (iI y) :: .int (iI x) :: rest)) := by
  refine va_mmin hx hb hml hown h1 h2 h3 h4 h5 h6 h7 h8 d ?_
  by_cases h : y < x
  · rw [if_pos ((iI_lt ry rx).mpr h)]
    exact k y ry.1 ry.2 (Or.inl ⟨h, rfl⟩)
  · rw [if_neg (fun q => h ((iI_lt ry rx).mp q))]
    exact k x rx.1 rx.2 (Or.inr ⟨Int.not_lt.mp h, rfl⟩)
/-- an element of a constant row -/
theorem q_cald (hx : p.tables.exec = Jvm.exec) (hb : c.code = cc) {A : Nat → Prop} {t N : Nat} {g : Nat → Int} (hT : va_T .int t N (fun j => .int (iI (g j))) A s s.heap) (hS : va_S A s.heap H locs) {i : Int} (ri : rg i) (h0 : 0 ≤ i) (h1 : i < N) (hg : rg (g i.toNat)) (d : decode cc pc = .ok (.iaload, 1))
    (k : ∀ z : Int, -2147483648 ≤ z → z ≤ 2147483647 → z = g i.toNat → W p l e R s m args below meth c H locs cells slots Q (F0 m (pc + 1) ls (.int (iI z) :: rest))) : W p l e R s m args below meth c H locs cells slots Q (F0 m pc ls (.int (iI i) :: .ref t :: rest)) := by
  refine va_ti hx hb hT hS (iI_in ri h0 h1) (v := .int (iI (g i.toNat))) (by rw [iI_nat ri]) d ?_
  exact k _ hg.1 hg.2 rfl
end QM
theorem cyc_b (j : Nat) : 0 ≤ cyc.getD j 0 ∧ cyc.getD j 0 ≤ 1430 := by
  by_cases h : j < 48
  · exact (show ∀ j, j < 48 → 0 ≤ cyc.getD j 0 ∧ cyc.getD j 0 ≤ 1430 by decide) j h
  · have : cyc.getD j 0 = 0 := by
      rw [List.getD_eq_getElem?_getD, List.getElem?_eq_none (by show 48 ≤ j; omega)]
      rfl
    omega
theorem q_inc (x n : Int) : ∃ y : Int, -2147483648 ≤ y ∧ y ≤ 2147483647 ∧ iI x + Int32.ofInt n = iI y ∧ ((x + n < -2147483648 ∨ 2147483647 < x + n) ∨ y = x + n) := by
  by_cases h : rg (x + n)
  · exact ⟨x + n, h.1, h.2, iI_add x n, Or.inr rfl⟩
  · refine ⟨(iI x + Int32.ofInt n).toInt, (iI_rg _).1, (iI_rg _).2, (iI_of _).symm, Or.inl ?_⟩
    have h3 : ¬ (-2147483648 ≤ x + n ∧ x + n ≤ 2147483647) := h
    omega
