/-! ===== ints as integers: iI x is the machine's int of x ===== -/
def iI (x : Int) : Int32 := Int32.ofInt x
abbrev rg (x : Int) : Prop := -2147483648 ≤ x ∧ x ≤ 2147483647
theorem iI_toInt {x : Int} (h : rg x) : (iI x).toInt = x := Int32.toInt_ofInt_of_le (by have := h.1; omega) (by have := h.2; omega)
theorem iI_of (v : Int32) : iI v.toInt = v := Int32.ofInt_toInt v
theorem iI_rg (v : Int32) : rg v.toInt := by
  have h1 := Int32.le_toInt v
  have h2 := Int32.toInt_lt v
  constructor <;> omega
theorem iI_add (x y : Int) : iI x + iI y = iI (x + y) := (Int32.ofInt_add x y).symm
theorem iI_sub (x y : Int) : iI x - iI y = iI (x - y) := (Int32.ofInt_sub x y).symm
theorem iI_mul (x y : Int) : iI x * iI y = iI (x * y) := (Int32.ofInt_mul x y).symm
theorem iI_lt {x y : Int} (hx : rg x) (hy : rg y) : iI x < iI y ↔ x < y := by
  rw [Int32.lt_iff_toInt_lt, iI_toInt hx, iI_toInt hy]
theorem iI_le {x y : Int} (hx : rg x) (hy : rg y) : iI x ≤ iI y ↔ x ≤ y := by
  rw [Int32.le_iff_toInt_le, iI_toInt hx, iI_toInt hy]
theorem iI_eq {x y : Int} (hx : rg x) (hy : rg y) : iI x = iI y ↔ x = y := by
  rw [← Int32.toInt_inj, iI_toInt hx, iI_toInt hy]
theorem iI_0 : iI 0 = 0 := rfl
theorem rg_0 : rg 0 := ⟨by decide, by decide⟩
theorem iI_div {x y : Int} (hx : rg x) (hy : rg y) (h0 : y ≠ -1) : iI x / iI y = iI (x.tdiv y) := by
  apply Int32.toInt_inj.mp
  have h1 : iI y ≠ -1 := fun h => h0 ((iI_eq hy ⟨by decide, by decide⟩).mp (h.trans (show (-1 : Int32) = iI (-1) from rfl)))
  rw [Int32.toInt_div_of_ne_right _ _ h1, iI_toInt hx, iI_toInt hy, iI_toInt]
  have h2 := Int.natAbs_tdiv_le_natAbs x y
  have h3 := hx.1; have h4 := hx.2
  have h5 : x = -2147483648 → y = 1 ∨ y = 0 ∨ -2147483648 ≤ x.tdiv y ∧ x.tdiv y ≤ 2147483647 := by
    intro h
    by_cases hy1 : y = 1
    · exact Or.inl hy1
    by_cases hy0 : y = 0
    · exact Or.inr (Or.inl hy0)
    · right; right
      have h7 : (x.tdiv y).natAbs = x.natAbs / y.natAbs := Int.natAbs_tdiv x y
      have h8 : 2 ≤ y.natAbs := by omega
      have h9 : x.natAbs / y.natAbs ≤ x.natAbs / 2 := Nat.div_le_div_left h8 (by decide)
      omega
  by_cases hm : x = -2147483648
  · rcases h5 hm with h | h | h
    · subst h; rw [Int.tdiv_one]; exact hx
    · subst h; rw [Int.tdiv_zero]; exact rg_0
    · exact h
  · constructor <;> omega
theorem iI_rem (x y : Int) (hx : rg x) (hy : rg y) (h0 : y ≠ -1) (h1 : y ≠ 0) : iI x - iI x / iI y * iI y = iI (x.tmod y) := by
  rw [iI_div hx hy h0, iI_mul, iI_sub]
  congr 1
  have := Int.tmod_def x y
  rw [this, Int.mul_comm]
theorem tdiv_pos {x y : Int} (hx : 0 ≤ x) (hy : 0 < y) : x.tdiv y = x / y ∧ 0 ≤ x / y ∧ x / y ≤ x := by
  refine ⟨Int.tdiv_eq_ediv_of_nonneg hx, Int.ediv_nonneg hx (by omega), ?_⟩
  exact Int.ediv_le_self y hx
theorem tmod_pos {x y : Int} (hx : 0 ≤ x) (hy : 0 < y) : x.tmod y = x % y ∧ 0 ≤ x % y ∧ x % y < y := by
  exact ⟨Int.tmod_eq_emod_of_nonneg hx, Int.emod_nonneg x (by omega), Int.emod_lt_of_pos x hy⟩
theorem tmod_gen {x y : Int} (hy : 0 < y) : -y < x.tmod y ∧ x.tmod y < y := by
  have h1 : (x.tmod y).natAbs = x.natAbs % y.natAbs := Int.natAbs_tmod x y
  have h2 : x.natAbs % y.natAbs < y.natAbs := Nat.mod_lt _ (by omega)
  omega
theorem tdiv_gen (x y : Int) : (x.tdiv y).natAbs ≤ x.natAbs := Int.natAbs_tdiv_le_natAbs x y
section QI
variable {p : Program} {l : Launch} {e : Env} {R : Room} {s : State} {m : MethodId} {args : Array Value} {below : List Frame} {meth : Method} {c : Code} {H : Heap} {locs : List Loc} {cells slots : Nat} {Q : State → Prop}
variable {cc : ByteArray} {pc : Nat} {ls : Array Slot} {rest : List Value}
/-- a machine int gets a number -/
theorem q_num {v : Int32} (k : ∀ z : Int, -2147483648 ≤ z → z ≤ 2147483647 → z = v.toInt → W p l e R s m args below meth c H locs cells slots Q (F0 m pc ls (.int (iI z) :: rest))) : W p l e R s m args below meth c H locs cells slots Q (F0 m pc ls (.int v :: rest)) := by
  have := k v.toInt (iI_rg v).1 (iI_rg v).2 rfl
  rw [iI_of] at this
  exact this
theorem q_iadd (hx : p.tables.exec = Jvm.exec) (hb : c.code = cc) {x y : Int} (d : decode cc pc = .ok (.iadd, 1)) (h : rg (x + y)) (k : ∀ z : Int, -2147483648 ≤ z → z ≤ 2147483647 → z = x + y → W p l e R s m args below meth c H locs cells slots Q (F0 m (pc + 1) ls (.int (iI z) :: rest))) : W p l e R s m args below meth c H locs cells slots Q (F0 m pc ls (.int (iI y) :: .int (iI x) :: rest)) :=
  lv_iadd hx hb d (by rw [iI_add]; exact k _ h.1 h.2 rfl)
theorem q_isub (hx : p.tables.exec = Jvm.exec) (hb : c.code = cc) {x y : Int} (d : decode cc pc = .ok (.isub, 1)) (h : rg (x - y)) (k : ∀ z : Int, -2147483648 ≤ z → z ≤ 2147483647 → z = x - y → W p l e R s m args below meth c H locs cells slots Q (F0 m (pc + 1) ls (.int (iI z) :: rest))) : W p l e R s m args below meth c H locs cells slots Q (F0 m pc ls (.int (iI y) :: .int (iI x) :: rest)) :=
  lv_isub hx hb d (by rw [iI_sub]; exact k _ h.1 h.2 rfl)
theorem q_imul (hx : p.tables.exec = Jvm.exec) (hb : c.code = cc) {x y : Int} (d : decode cc pc = .ok (.imul, 1)) (h : rg (x * y)) (k : ∀ z : Int, -2147483648 ≤ z → z ≤ 2147483647 → z = x * y → W p l e R s m args below meth c H locs cells slots Q (F0 m (pc + 1) ls (.int (iI z) :: rest))) : W p l e R s m args below meth c H locs cells slots Q (F0 m pc ls (.int (iI y) :: .int (iI x) :: rest)) :=
  lv_imul hx hb d (by rw [iI_mul]; exact k _ h.1 h.2 rfl)
theorem q_iaddw (hx : p.tables.exec = Jvm.exec) (hb : c.code = cc) {x y : Int} (d : decode cc pc = .ok (.iadd, 1)) (k : ∀ z : Int, -2147483648 ≤ z → z ≤ 2147483647 → ((x + y < -2147483648 ∨ 2147483647 < x + y) ∨ z = x + y) → W p l e R s m args below meth c H locs cells slots Q (F0 m (pc + 1) ls (.int (iI z) :: rest))) : W p l e R s m args below meth c H locs cells slots Q (F0 m pc ls (.int (iI y) :: .int (iI x) :: rest)) := by
  refine lv_iadd hx hb d ?_
  by_cases h : rg (x + y)
  · rw [iI_add]; exact k _ h.1 h.2 (Or.inr rfl)
  · exact q_num fun z h1 h2 _ => k z h1 h2 (Or.inl (by have h3 : ¬ (-2147483648 ≤ x + y ∧ x + y ≤ 2147483647) := h; omega))
theorem q_isubw (hx : p.tables.exec = Jvm.exec) (hb : c.code = cc) {x y : Int} (d : decode cc pc = .ok (.isub, 1)) (k : ∀ z : Int, -2147483648 ≤ z → z ≤ 2147483647 → ((x - y < -2147483648 ∨ 2147483647 < x - y) ∨ z = x - y) → W p l e R s m args below meth c H locs cells slots Q (F0 m (pc + 1) ls (.int (iI z) :: rest))) : W p l e R s m args below meth c H locs cells slots Q (F0 m pc ls (.int (iI y) :: .int (iI x) :: rest)) := by
  refine lv_isub hx hb d ?_
  by_cases h : rg (x - y)
  · rw [iI_sub]; exact k _ h.1 h.2 (Or.inr rfl)
  · exact q_num fun z h1 h2 _ => k z h1 h2 (Or.inl (by have h3 : ¬ (-2147483648 ≤ x - y ∧ x - y ≤ 2147483647) := h; omega))
theorem q_imulw (hx : p.tables.exec = Jvm.exec) (hb : c.code = cc) {x y : Int} (d : decode cc pc = .ok (.imul, 1)) (k : ∀ z : Int, -2147483648 ≤ z → z ≤ 2147483647 → ((x * y < -2147483648 ∨ 2147483647 < x * y) ∨ z = x * y) → W p l e R s m args below meth c H locs cells slots Q (F0 m (pc + 1) ls (.int (iI z) :: rest))) : W p l e R s m args below meth c H locs cells slots Q (F0 m pc ls (.int (iI y) :: .int (iI x) :: rest)) := by
  refine lv_imul hx hb d ?_
  by_cases h : rg (x * y)
  · rw [iI_mul]; exact k _ h.1 h.2 (Or.inr rfl)
  · exact q_num fun z h1 h2 _ => k z h1 h2 (Or.inl (by have h3 : ¬ (-2147483648 ≤ x * y ∧ x * y ≤ 2147483647) := h; omega))
theorem q_ne0 {y : Int} (hy : rg y) (h : y ≠ 0) : ¬ iI y = 0 := fun q => h ((iI_eq hy rg_0).mp q)
/-- division, both as they should be -/
theorem q_idiv (hx : p.tables.exec = Jvm.exec) (hb : c.code = cc) {x y : Int} (d : decode cc pc = .ok (.idiv, 1)) (rx : rg x) (ry : rg y) (h0 : 0 ≤ x) (h1 : 0 < y) (k : ∀ z : Int, -2147483648 ≤ z → z ≤ 2147483647 → (z = x / y ∧ 0 ≤ z ∧ z ≤ x) → W p l e R s m args below meth c H locs cells slots Q (F0 m (pc + 1) ls (.int (iI z) :: rest))) : W p l e R s m args below meth c H locs cells slots Q (F0 m pc ls (.int (iI y) :: .int (iI x) :: rest)) := by
  refine lv_idiv hx hb d (q_ne0 ry (by omega)) ?_
  obtain ⟨e1, e2, e3⟩ := tdiv_pos h0 h1
  rw [iI_div rx ry (by omega), e1]
  exact k _ (by have := rx.1; omega) (by have := rx.2; omega) ⟨rfl, e2, e3⟩
theorem q_idivw (hx : p.tables.exec = Jvm.exec) (hb : c.code = cc) {x y : Int} (d : decode cc pc = .ok (.idiv, 1)) (rx : rg x) (ry : rg y) (h1 : 0 < y) (k : ∀ z : Int, -2147483648 ≤ z → z ≤ 2147483647 → (x ≤ z ∧ z ≤ 0 ∨ 0 ≤ z ∧ z ≤ x ∧ z = x / y) → W p l e R s m args below meth c H locs cells slots Q (F0 m (pc + 1) ls (.int (iI z) :: rest))) : W p l e R s m args below meth c H locs cells slots Q (F0 m pc ls (.int (iI y) :: .int (iI x) :: rest)) := by
  refine lv_idiv hx hb d (q_ne0 ry (by omega)) ?_
  rw [iI_div rx ry (by omega)]
  by_cases h0 : 0 ≤ x
  · obtain ⟨e1, e2, e3⟩ := tdiv_pos h0 h1
    rw [e1]
    exact k _ (by have := rx.1; omega) (by have := rx.2; omega) (Or.inr ⟨e2, e3, rfl⟩)
  · have e1 : x.tdiv y = -((-x).tdiv y) := by rw [Int.neg_tdiv]; omega
    obtain ⟨e2, e3, e4⟩ := tdiv_pos (x := -x) (by omega) h1
    rw [e1, e2]
    exact k _ (by have := rx.1; omega) (by have := rx.2; omega) (Or.inl ⟨by omega, by omega⟩)
theorem q_irem (hx : p.tables.exec = Jvm.exec) (hb : c.code = cc) {x y : Int} (d : decode cc pc = .ok (.irem, 1)) (rx : rg x) (ry : rg y) (h0 : 0 ≤ x) (h1 : 0 < y) (k : ∀ z : Int, -2147483648 ≤ z → z ≤ 2147483647 → (z = x % y ∧ 0 ≤ z ∧ z < y) → W p l e R s m args below meth c H locs cells slots Q (F0 m (pc + 1) ls (.int (iI z) :: rest))) : W p l e R s m args below meth c H locs cells slots Q (F0 m pc ls (.int (iI y) :: .int (iI x) :: rest)) := by
  refine lv_irem hx hb d (q_ne0 ry (by omega)) ?_
  obtain ⟨e1, e2, e3⟩ := tmod_pos h0 h1
  rw [iI_rem x y rx ry (by omega) (by omega), e1]
  exact k _ (by omega) (by have := ry.2; omega) ⟨rfl, e2, e3⟩
theorem q_iremw (hx : p.tables.exec = Jvm.exec) (hb : c.code = cc) {x y : Int} (d : decode cc pc = .ok (.irem, 1)) (rx : rg x) (ry : rg y) (h1 : 0 < y) (k : ∀ z : Int, -2147483648 ≤ z → z ≤ 2147483647 → (-y < z ∧ z < y ∧ (x < 0 ∨ z = x % y)) → W p l e R s m args below meth c H locs cells slots Q (F0 m (pc + 1) ls (.int (iI z) :: rest))) : W p l e R s m args below meth c H locs cells slots Q (F0 m pc ls (.int (iI y) :: .int (iI x) :: rest)) := by
  refine lv_irem hx hb d (q_ne0 ry (by omega)) ?_
  obtain ⟨e2, e3⟩ := tmod_gen (x := x) h1
  rw [iI_rem x y rx ry (by omega) (by omega)]
  exact k _ (by have := ry.2; omega) (by have := ry.2; omega) ⟨e2, e3, by by_cases h : x < 0; exact Or.inl h; exact Or.inr (tmod_pos (Int.not_lt.mp h) h1).1⟩
/-- constants -/
theorem q_iconst (hx : p.tables.exec = Jvm.exec) (hb : c.code = cc) {n : Int} (d : decode cc pc = .ok (.iconst n, 1)) (k : W p l e R s m args below meth c H locs cells slots Q (F0 m (pc + 1) ls (.int (iI n) :: rest))) : W p l e R s m args below meth c H locs cells slots Q (F0 m pc ls rest) := lv_iconst hx hb d rfl k
theorem q_bipush (hx : p.tables.exec = Jvm.exec) (hb : c.code = cc) {n : Int} (d : decode cc pc = .ok (.bipush n, 2)) (hn : (Int8.ofInt n).toInt32 = iI n) (k : W p l e R s m args below meth c H locs cells slots Q (F0 m (pc + 2) ls (.int (iI n) :: rest))) : W p l e R s m args below meth c H locs cells slots Q (F0 m pc ls rest) := lv_bipush hx hb d hn k
theorem q_sipush (hx : p.tables.exec = Jvm.exec) (hb : c.code = cc) {n : Int} (d : decode cc pc = .ok (.sipush n, 3)) (hn : (Int16.ofInt n).toInt32 = iI n) (k : W p l e R s m args below meth c H locs cells slots Q (F0 m (pc + 3) ls (.int (iI n) :: rest))) : W p l e R s m args below meth c H locs cells slots Q (F0 m pc ls rest) := lv_sipush hx hb d hn k
end QI
