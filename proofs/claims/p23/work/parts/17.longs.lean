/-! ===== longs as integers ===== -/
theorem lJ_toInt {x : Int} (h : rgl x) : (lJ x).toInt = x := Int64.toInt_ofInt_of_le (by have := h.1; omega) (by have := h.2; omega)
theorem lJ_of (v : Int64) : lJ v.toInt = v := Int64.ofInt_toInt v
theorem lJ_rg (v : Int64) : rgl v.toInt := by
  have h1 := Int64.le_toInt v
  have h2 := Int64.toInt_lt v
  constructor <;> omega
theorem lJ_add (x y : Int) : lJ x + lJ y = lJ (x + y) := (Int64.ofInt_add x y).symm
theorem lJ_sub (x y : Int) : lJ x - lJ y = lJ (x - y) := (Int64.ofInt_sub x y).symm
theorem lJ_mul (x y : Int) : lJ x * lJ y = lJ (x * y) := (Int64.ofInt_mul x y).symm
theorem lJ_lt {x y : Int} (hx : rgl x) (hy : rgl y) : lJ x < lJ y ↔ x < y := by rw [Int64.lt_iff_toInt_lt, lJ_toInt hx, lJ_toInt hy]
theorem lJ_eq {x y : Int} (hx : rgl x) (hy : rgl y) : lJ x = lJ y ↔ x = y := by rw [← Int64.toInt_inj, lJ_toInt hx, lJ_toInt hy]
theorem rgl_0 : rgl 0 := ⟨by decide, by decide⟩
theorem lJ_ne0 {y : Int} (hy : rgl y) (h : y ≠ 0) : ¬ lJ y = 0 := fun q => h ((lJ_eq hy rgl_0).mp q)
theorem lJ_i {x : Int} (h : rg x) : (iI x).toInt64 = lJ x := by
  apply Int64.toInt_inj.mp
  rw [Int32.toInt_toInt64, iI_toInt h, lJ_toInt ⟨by have := h.1; omega, by have := h.2; omega⟩]
theorem lJ_div {x y : Int} (hx : rgl x) (hy : rgl y) (h0 : 0 ≤ x) (h1 : 0 < y) : lJ x / lJ y = lJ (x / y) := by
  apply Int64.toInt_inj.mp
  have hm : lJ y ≠ -1 := fun h => by have := (lJ_eq hy ⟨by decide, by decide⟩).mp (h.trans (show (-1 : Int64) = lJ (-1) from rfl)); omega
  obtain ⟨e1, e2, e3⟩ := tdiv_pos h0 h1
  rw [Int64.toInt_div_of_ne_right _ _ hm, lJ_toInt hx, lJ_toInt hy, e1, lJ_toInt]
  have h3 := hx.1; have h4 := hx.2
  constructor <;> omega
section QL
variable {p : Program} {l : Launch} {e : Env} {R : Room} {s : State} {m : MethodId} {args : Array Value} {below : List Frame} {meth : Method} {c : Code} {H : Heap} {locs : List Loc} {cells slots : Nat} {Q : State → Prop}
variable {cc : ByteArray} {pc : Nat} {ls : Array Slot} {rest : List Value}
theorem q_numl {v : Int64} (k : ∀ z : Int, -9223372036854775808 ≤ z → z ≤ 9223372036854775807 → z = v.toInt → W p l e R s m args below meth c H locs cells slots Q (F0 m pc ls (.long (lJ z) :: rest))) : W p l e R s m args below meth c H locs cells slots Q (F0 m pc ls (.long v :: rest)) := by
  have := k v.toInt (lJ_rg v).1 (lJ_rg v).2 rfl
  rw [lJ_of] at this
  exact this
theorem q_ladd (hx : p.tables.exec = Jvm.exec) (hb : c.code = cc) {x y : Int} (d : decode cc pc = .ok (.ladd, 1)) (h : rgl (x + y)) (k : ∀ z : Int, -9223372036854775808 ≤ z → z ≤ 9223372036854775807 → z = x + y → W p l e R s m args below meth c H locs cells slots Q (F0 m (pc + 1) ls (.long (lJ z) :: rest))) : W p l e R s m args below meth c H locs cells slots Q (F0 m pc ls (.long (lJ y) :: .long (lJ x) :: rest)) :=
  lv_ladd hx hb d (by rw [lJ_add]; exact k _ h.1 h.2 rfl)
theorem q_laddw (hx : p.tables.exec = Jvm.exec) (hb : c.code = cc) {x y : Int} (d : decode cc pc = .ok (.ladd, 1)) (k : ∀ z : Int, -9223372036854775808 ≤ z → z ≤ 9223372036854775807 → True → W p l e R s m args below meth c H locs cells slots Q (F0 m (pc + 1) ls (.long (lJ z) :: rest))) : W p l e R s m args below meth c H locs cells slots Q (F0 m pc ls (.long (lJ y) :: .long (lJ x) :: rest)) :=
  lv_ladd hx hb d (q_numl fun z h1 h2 _ => k z h1 h2 trivial)
theorem q_lmul (hx : p.tables.exec = Jvm.exec) (hb : c.code = cc) {x y : Int} (d : decode cc pc = .ok (.lmul, 1)) (h : rgl (x * y)) (k : ∀ z : Int, -9223372036854775808 ≤ z → z ≤ 9223372036854775807 → z = x * y → W p l e R s m args below meth c H locs cells slots Q (F0 m (pc + 1) ls (.long (lJ z) :: rest))) : W p l e R s m args below meth c H locs cells slots Q (F0 m pc ls (.long (lJ y) :: .long (lJ x) :: rest)) :=
  lv_lmul hx hb d (by rw [lJ_mul]; exact k _ h.1 h.2 rfl)
theorem q_lmulw (hx : p.tables.exec = Jvm.exec) (hb : c.code = cc) {x y : Int} (d : decode cc pc = .ok (.lmul, 1)) (k : ∀ z : Int, -9223372036854775808 ≤ z → z ≤ 9223372036854775807 → True → W p l e R s m args below meth c H locs cells slots Q (F0 m (pc + 1) ls (.long (lJ z) :: rest))) : W p l e R s m args below meth c H locs cells slots Q (F0 m pc ls (.long (lJ y) :: .long (lJ x) :: rest)) :=
  lv_lmul hx hb d (q_numl fun z h1 h2 _ => k z h1 h2 trivial)
theorem q_ldiv (hx : p.tables.exec = Jvm.exec) (hb : c.code = cc) {x y : Int} (d : decode cc pc = .ok (.ldiv, 1)) (rx : rgl x) (ry : rgl y) (h0 : 0 ≤ x) (h1 : 0 < y) (k : ∀ z : Int, -9223372036854775808 ≤ z → z ≤ 9223372036854775807 → (z = x / y ∧ 0 ≤ z ∧ z ≤ x) → W p l e R s m args below meth c H locs cells slots Q (F0 m (pc + 1) ls (.long (lJ z) :: rest))) : W p l e R s m args below meth c H locs cells slots Q (F0 m pc ls (.long (lJ y) :: .long (lJ x) :: rest)) := by
  refine lv_ldiv hx hb d (lJ_ne0 ry (by omega)) ?_
  obtain ⟨e1, e2, e3⟩ := tdiv_pos h0 h1
  rw [lJ_div rx ry h0 h1]
  exact k _ (by have := rx.1; omega) (by have := rx.2; omega) ⟨rfl, e2, e3⟩
theorem q_ldivw (hx : p.tables.exec = Jvm.exec) (hb : c.code = cc) {x y : Int} (d : decode cc pc = .ok (.ldiv, 1)) (rx : rgl x) (ry : rgl y) (h1 : y ≠ 0) (k : ∀ z : Int, -9223372036854775808 ≤ z → z ≤ 9223372036854775807 → True → W p l e R s m args below meth c H locs cells slots Q (F0 m (pc + 1) ls (.long (lJ z) :: rest))) : W p l e R s m args below meth c H locs cells slots Q (F0 m pc ls (.long (lJ y) :: .long (lJ x) :: rest)) :=
  lv_ldiv hx hb d (lJ_ne0 ry h1) (q_numl fun z h1 h2 _ => k z h1 h2 trivial)
theorem q_lrem (hx : p.tables.exec = Jvm.exec) (hb : c.code = cc) {x y : Int} (d : decode cc pc = .ok (.lrem, 1)) (rx : rgl x) (ry : rgl y) (h0 : 0 ≤ x) (h1 : 0 < y) (k : ∀ z : Int, -9223372036854775808 ≤ z → z ≤ 9223372036854775807 → (z = x % y ∧ 0 ≤ z ∧ z < y) → W p l e R s m args below meth c H locs cells slots Q (F0 m (pc + 1) ls (.long (lJ z) :: rest))) : W p l e R s m args below meth c H locs cells slots Q (F0 m pc ls (.long (lJ y) :: .long (lJ x) :: rest)) := by
  refine lv_lrem hx hb d (lJ_ne0 ry (by omega)) ?_
  obtain ⟨e1, e2, e3⟩ := tmod_pos h0 h1
  have e4 : lJ x - lJ x / lJ y * lJ y = lJ (x % y) := by
    rw [lJ_div rx ry h0 h1, lJ_mul, lJ_sub]
    congr 1
    have := Int.emod_def x y
    rw [this, Int.mul_comm]
  rw [e4]
  exact k _ (by omega) (by have := ry.2; omega) ⟨rfl, e2, e3⟩
theorem q_lremw (hx : p.tables.exec = Jvm.exec) (hb : c.code = cc) {x y : Int} (d : decode cc pc = .ok (.lrem, 1)) (rx : rgl x) (ry : rgl y) (h1 : y ≠ 0) (k : ∀ z : Int, -9223372036854775808 ≤ z → z ≤ 9223372036854775807 → True → W p l e R s m args below meth c H locs cells slots Q (F0 m (pc + 1) ls (.long (lJ z) :: rest))) : W p l e R s m args below meth c H locs cells slots Q (F0 m pc ls (.long (lJ y) :: .long (lJ x) :: rest)) :=
  lv_lrem hx hb d (lJ_ne0 ry h1) (q_numl fun z h1 h2 _ => k z h1 h2 trivial)
theorem q_lcmp (hx : p.tables.exec = Jvm.exec) (hb : c.code = cc) {x y : Int} (d : decode cc pc = .ok (.lcmp, 1)) (rx : rgl x) (ry : rgl y) (k : ∀ z : Int, -2147483648 ≤ z → z ≤ 2147483647 → (x < y ∧ z = -1 ∨ x = y ∧ z = 0 ∨ y < x ∧ z = 1) → W p l e R s m args below meth c H locs cells slots Q (F0 m (pc + 1) ls (.int (iI z) :: rest))) : W p l e R s m args below meth c H locs cells slots Q (F0 m pc ls (.long (lJ y) :: .long (lJ x) :: rest)) := by
  refine W.lcmp hx hb d ?_
  unfold lg_cmp
  by_cases h : x = y
  · subst h
    simp only [lJ_lt rx rx, lJ_eq rx rx, Int.lt_irrefl, gt_iff_lt, if_true, if_false, ite_self]
    first | exact k 0 (by decide) (by decide) (Or.inr (Or.inl ⟨rfl, rfl⟩)) | (simp; exact k 0 (by decide) (by decide) (Or.inr (Or.inl ⟨rfl, rfl⟩)))
  · by_cases h2 : x < y
    · have h3 : ¬ y < x := by omega
      simp only [lJ_lt rx ry, lJ_lt ry rx, lJ_eq rx ry, gt_iff_lt, h, h2, h3, if_true, if_false]
      exact k (-1) (by decide) (by decide) (Or.inl ⟨h2, rfl⟩)
    · have h3 : y < x := by omega
      simp only [lJ_lt rx ry, lJ_lt ry rx, lJ_eq rx ry, gt_iff_lt, h, h2, h3, if_true, if_false]
      exact k 1 (by decide) (by decide) (Or.inr (Or.inr ⟨h3, rfl⟩))
theorem q_i2l (hx : p.tables.exec = Jvm.exec) (hb : c.code = cc) {x : Int} (d : decode cc pc = .ok (.i2l, 1)) (rx : rg x) (k : W p l e R s m args below meth c H locs cells slots Q (F0 m (pc + 1) ls (.long (lJ x) :: rest))) : W p l e R s m args below meth c H locs cells slots Q (F0 m pc ls (.int (iI x) :: rest)) := lv_i2l hx hb d (lJ_i rx) k
theorem q_ldc2 (hx : p.tables.exec = Jvm.exec) (hb : c.code = cc) {own : String} {index : Nat} {v : Int64} {n : Int} (hown : s.vm.findClass own = some m.cls) (hc : (Jvm.Cond.constantLong own index v).before args s = true) (hv : v = lJ n) (d : decode cc pc = .ok (.ldc2_w index, 3)) (k : W p l e R s m args below meth c H locs cells slots Q (F0 m (pc + 3) ls (.long (lJ n) :: rest))) : W p l e R s m args below meth c H locs cells slots Q (F0 m pc ls rest) := lv_ldc2 hx hb hown hc d (by rw [hv]; exact k)
theorem q_lconst0 (hx : p.tables.exec = Jvm.exec) (hb : c.code = cc) (d : decode cc pc = .ok (.lconst 0, 1)) (k : W p l e R s m args below meth c H locs cells slots Q (F0 m (pc + 1) ls (.long (lJ 0) :: rest))) : W p l e R s m args below meth c H locs cells slots Q (F0 m pc ls rest) := lv_lconst hx hb d rfl k
theorem q_l2i (hx : p.tables.exec = Jvm.exec) (hb : c.code = cc) {x : Int64} (d : decode cc pc = .ok (.l2i, 1)) (k : ∀ z : Int, -2147483648 ≤ z → z ≤ 2147483647 → True → W p l e R s m args below meth c H locs cells slots Q (F0 m (pc + 1) ls (.int (iI z) :: rest))) : W p l e R s m args below meth c H locs cells slots Q (F0 m pc ls (.long x :: rest)) := lv_l2i hx hb d rfl (q_num fun z h1 h2 _ => k z h1 h2 trivial)
end QL
