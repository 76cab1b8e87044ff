/-! ===== rows of the machine, and forms that the walks use ===== -/
section QDT
variable {p : Program} {l : Launch} {e : Env} {R : Room} {s : State} {m : MethodId} {args : Array Value} {below : List Frame} {meth : Method} {c : Code} {H : Heap} {locs : List Loc} {cells slots : Nat} {Q : State → Prop}
variable {cc : ByteArray} {pc : Nat} {ls : Array Slot} {rest : List Value}
theorem q_idivt (hx : p.tables.exec = Jvm.exec) (hb : c.code = cc) {x y : Int} (d : decode cc pc = .ok (.idiv, 1)) (rx : rg x) (ry : rg y) (h1 : 0 < y) (k : ∀ z : Int, -2147483648 ≤ z → z ≤ 2147483647 → ((0 ≤ x ∧ z = x / y) ∨ (x < 0 ∧ z = -((-x) / y))) → W p l e R s m args below meth c H locs cells slots Q (F0 m (pc + 1) ls (.int (iI z) :: rest))) : W p l e R s m args below meth c H locs cells slots Q (F0 m pc ls (.int (iI y) :: .int (iI x) :: rest)) := by
  refine lv_idiv hx hb d (q_ne0 ry (by omega)) ?_
  rw [iI_div rx ry (by omega)]
  by_cases h0 : 0 ≤ x
  · obtain ⟨e1, e2, e3⟩ := tdiv_pos h0 h1
    rw [e1]
    exact k _ (by have := rx.1; omega) (by have := rx.2; omega) (Or.inl ⟨h0, rfl⟩)
  · have e1 : x.tdiv y = -((-x).tdiv y) := by rw [Int.neg_tdiv]; omega
    obtain ⟨e2, e3, e4⟩ := tdiv_pos (x := -x) (by omega) h1
    rw [e1, e2]
    exact k _ (by have := rx.1; omega) (by have := rx.2; omega) (Or.inr ⟨by omega, rfl⟩)
end QDT
theorem xor_neg {x y : Int} (rx : rg x) (ry : rg y) (hy : 0 ≤ y) : (iI x ^^^ iI y).toInt < 0 ↔ x < 0 := by
  have e : (iI x ^^^ iI y).toInt = ((iI x).toBitVec ^^^ (iI y).toBitVec).toInt := rfl
  have ex : (iI x).toBitVec.toInt = x := iI_toInt rx
  have ey : (iI y).toBitVec.toInt = y := iI_toInt ry
  have m := BitVec.msb_xor (x := (iI x).toBitVec) (y := (iI y).toBitVec)
  rw [BitVec.msb_eq_toInt, BitVec.msb_eq_toInt, BitVec.msb_eq_toInt, ex, ey, decide_eq_false (show ¬ y < 0 by omega), Bool.xor_false] at m
  rw [e]
  exact decide_eq_decide.mp m
theorem fdiv_ret {x q s r : Int} (hq : (0 ≤ x ∧ q = x / 1440) ∨ (x < 0 ∧ q = -((-x) / 1440))) (hs : s < 0 ↔ x < 0) (hr : (0 ≤ s ∧ r = q) ∨ (s < 0 ∧ q * 1440 = x ∧ r = q) ∨ (s < 0 ∧ q * 1440 ≠ x ∧ r = q - 1)) : r = x / 1440 := by omega
/-! the search from a time on, before what is moved -/
def LSx (K : Int → Prop) (O : Int → Int) (M u j r i : Int) : Prop := ∃ a : Int, (∀ d : Int, K d → (a ≤ d ↔ ¬ Lx (1440 * d + M) d u j)) ∧ LQ K O a r i
def RSx (K : Int → Prop) (O : Int → Int) (M u j r : Int) : Prop := ∃ a : Int, (∀ d : Int, K d → (a ≤ d ↔ ¬ Lx (1440 * d + M) d u j)) ∧ RZ K O a r
theorem LSx.one {K : Int → Prop} {O : Int → Int} {M u j a r i : Int} (a1 : u ≤ 1440 * a + M) (a2 : 1440 * (a - 1) + M < u) (f : Fst K a r) (hr : ∀ d : Int, K d → 0 ≤ d ∧ d ≤ 36524) (c : r = -1 ∨ j ≤ r ∨ 1440 * r + M ≠ u) (hi : i = 0) : LSx K O M u j r i :=
  ⟨a, (sk_from a1 a2 f hr).2 c, LQ.start f hr hi⟩
theorem LSx.two {K : Int → Prop} {O : Int → Int} {M u j a r b r2 i : Int} (a1 : u ≤ 1440 * a + M) (a2 : 1440 * (a - 1) + M < u) (f : Fst K a r) (hr : ∀ d : Int, K d → 0 ≤ d ∧ d ≤ 36524) (c : r ≠ -1 ∧ r < j ∧ 1440 * r + M = u) (f2 : Fst K b r2) (eb : b = r + 1) (hi : i = 0) : LSx K O M u j r2 i := by
  subst eb
  exact ⟨r + 1, (sk_from a1 a2 f hr).1 c, LQ.start f2 hr hi⟩
theorem LSx.step {K : Int → Prop} {O : Int → Int} {M u j r r' i i' b : Int} (h : LSx K O M u j r i) (n : r ≠ -1) (o : O r ≠ -2) (f : Fst K b r') (eb : b = r + 1) (ei : i' = i + 1) (hr : ∀ d : Int, K d → 0 ≤ d ∧ d ≤ 36524) : LSx K O M u j r' i' := by
  obtain ⟨a, h1, h2⟩ := h
  exact ⟨a, h1, h2.step n o f eb ei hr⟩
theorem LSx.to {K : Int → Prop} {O : Int → Int} {M u j r i i' : Int} (h : LSx K O M u j r i) (e : i' = i) : LSx K O M u j r i' := by rw [e]; exact h
theorem LSx.out {K : Int → Prop} {O : Int → Int} {M u j r i n : Int} (h : LSx K O M u j r i) (hn : n = cn (fun k => O k ≠ -2) 0 36525) (hr : ∀ d : Int, K d → 0 ≤ d ∧ d ≤ 36524) (c : r = -1 ∨ n ≤ i ∨ O r = -2) : RSx K O M u j r := by
  obtain ⟨a, h1, h2⟩ := h
  exact ⟨a, h1, h2.out hn hr c⟩
theorem RSx.sk {K : Int → Prop} {O : Int → Int} {M u j r T : Int} (h : RSx K O M u j r) (hr : ∀ d : Int, K d → 0 ≤ d ∧ d ≤ 36524) (ht : (T = 2147483647 ∧ r = -1) ∨ (T = 1440 * r + M ∧ r ≠ -1)) : Sk (Q0 K O M) u j T r := by
  obtain ⟨a, h1, h2⟩ := h
  exact h2.sk h1 hr (by omega)
theorem Fst.kb {K : Int → Prop} {a r : Int} (f : Fst K a r) (hr : ∀ d : Int, K d → 0 ≤ d ∧ d ≤ 36524) : r = -1 ∨ (0 ≤ r ∧ r ≤ 36524) := by
  rcases f with h | h
  · exact Or.inr (hr _ h.2.2.1)
  · exact Or.inl h.1
theorem Lst.kb {K : Int → Prop} {a r : Int} (f : Lst K a r) (hr : ∀ d : Int, K d → 0 ≤ d ∧ d ≤ 36524) : r = -1 ∨ (0 ≤ r ∧ r ≤ 36524) := by
  rcases f with h | h
  · exact Or.inr (hr _ h.2.2.1)
  · exact Or.inl h.1
theorem LR.to {K : Int → Prop} {O : Int → Int} {b r i i' : Int} (h : LR K O b r i) (e : i' = i) : LR K O b r i' := by rw [e]; exact h
theorem Sk.to {Q : Int → Int → Prop} {A B : Int → Int} {u j T K i i' : Int} (h : Sk (PQ Q A B i) u j T K) (e : i' = i) : Sk (PQ Q A B i') u j T K := by rw [e]; exact h
theorem Sa.to {Q : Int → Int → Prop} {A B : Int → Int} {u T K i i' : Int} (h : Sa (PQ Q A B i) u T K) (e : i' = i) : Sa (PQ Q A B i') u T K := by rw [e]; exact h
theorem Sk.oc {g : Int → Int} {p n i u j T K : Int} {O A B : Int → Int} (h : Sk (PQ (Q0 (KG g p) O (g (p + 1))) A B i) u j T K) (o : OdR B A n O) (e : i = n) : Sk (Oc g p O) u j T K := by
  rw [e] at h
  exact h.cg (pq_oc o)
theorem Sa.oc {g : Int → Int} {p n i u T K : Int} {O A B : Int → Int} (h : Sa (PQ (Q0 (KG g p) O (g (p + 1))) A B i) u T K) (o : OdR B A n O) (e : i = n) : Sa (Oc g p O) u T K := by
  rw [e] at h
  exact h.cg (pq_oc o)
/-! how many, by the places of the odds -/
def NBI (K : Int → Prop) (A B : Int → Int) (a b u v i j c : Int) : Prop := c = cn K a (b + 1) - cn (fun l => a ≤ B l ∧ B l ≤ b) 0 i + cn (fun l => A l ≠ -1 ∧ u ≤ A l ∧ A l ≤ v) 0 j
theorem NBI.start {K : Int → Prop} {A B : Int → Int} {a b u v i j c : Int} (h : c = cn K a (b + 1)) (hi : i ≤ 0) (hj : j ≤ 0) : NBI K A B a b u v i j c := by
  unfold NBI
  rw [cn_le hi, cn_le hj]
  omega
theorem NBI.i {K : Int → Prop} {A B : Int → Int} {a b u v i i' j c c' x : Int} (h : NBI K A B a b u v i j c) (i0 : 0 ≤ i) (ei : i' = i + 1) (ex : x = B i) (hz : (a ≤ x ∧ x ≤ b ∧ c' = c - 1) ∨ ((x < a ∨ b < x) ∧ c' = c)) : NBI K A B a b u v i' j c' := by
  subst ei
  subst ex
  unfold NBI at h ⊢
  rcases hz with ⟨z1, z2, z3⟩ | ⟨z1, z2⟩
  · rw [cn_yes (p := fun l => a ≤ B l ∧ B l ≤ b) i0 ⟨z1, z2⟩]; omega
  · rw [cn_no (p := fun l => a ≤ B l ∧ B l ≤ b) i0 (fun w => by have w1 := w.1; have w2 := w.2; omega)]; omega
theorem NBI.j {K : Int → Prop} {A B : Int → Int} {a b u v i j j' c c' x : Int} (h : NBI K A B a b u v i j c) (j0 : 0 ≤ j) (ej : j' = j + 1) (ex : x = A j) (hz : (x ≠ -1 ∧ u ≤ x ∧ x ≤ v ∧ c' = c + 1) ∨ ((x = -1 ∨ x < u ∨ v < x) ∧ c' = c)) : NBI K A B a b u v i j' c' := by
  subst ej
  subst ex
  unfold NBI at h ⊢
  rcases hz with ⟨z1, z2, z3, z4⟩ | ⟨z1, z2⟩
  · rw [cn_yes (p := fun l => A l ≠ -1 ∧ u ≤ A l ∧ A l ≤ v) j0 ⟨z1, z2, z3⟩]; omega
  · rw [cn_no (p := fun l => A l ≠ -1 ∧ u ≤ A l ∧ A l ≤ v) j0 (fun w => by have w1 := w.1; have w2 := w.2; omega)]; omega
theorem NBI.to {K : Int → Prop} {A B : Int → Int} {a b u v i i' j j' c : Int} (h : NBI K A B a b u v i j c) (e1 : i' = i) (e2 : j' = j) : NBI K A B a b u v i' j' c := by rw [e1, e2]; exact h
theorem NBI.b {K : Int → Prop} {A B : Int → Int} {a b u v i j c : Int} (h : NBI K A B a b u v i j c) (i0 : 0 ≤ i) (j0 : 0 ≤ j) : -i ≤ c ∧ c ≤ max 0 (b + 1 - a) + j := by
  unfold NBI at h
  have c1 := cn_pos (p := K) (a := a) (b := b + 1)
  have c2 := cn_pos (p := fun l => a ≤ B l ∧ B l ≤ b) (a := 0) (b := i)
  have c3 := cn_pos (p := fun l => A l ≠ -1 ∧ u ≤ A l ∧ A l ≤ v) (a := 0) (b := j)
  omega
theorem NBI.nb {g : Int → Int} {p n a b u v i j c : Int} {O A B : Int → Int} (h : NBI (KG g p) A B a b u v i j c) (o : OdR B A n O) (n0 : 0 ≤ n) (e1 : i = n) (e2 : j = n) (hk : OKk g p O) (hr : ∀ d : Int, KG g p d → 0 ≤ d ∧ d ≤ 36524) (a1 : u ≤ 1440 * a + g (p + 1)) (a2 : 1440 * (a - 1) + g (p + 1) < u) (b1 : 1440 * b + g (p + 1) ≤ v) (b2 : v < 1440 * (b + 1) + g (p + 1)) : c = NB g p O u v := by
  rw [e1, e2] at h
  exact nb_fin o n0 hk hr a1 a2 b1 b2 h
theorem nb_arg {g : Int → Int} {p a a' b b' r : Int} {O : Int → Int} (h : r = NB g p O a b) (ea : a = a') (eb : b = b') : r = NB g p O a' b' := by rw [← ea, ← eb]; exact h
theorem LL.pq {Q : Int → Int → Prop} {A B tm ks : Int → Int} {i i' n n' : Int} (h : LL (PQ Q A B i) tm ks n) (ei : i' = i) (en : n' = n) : LL (PQ Q A B i') tm ks n' := by rw [ei, en]; exact h
theorem LL.oc {g : Int → Int} {p n m i : Int} {O A B tm ks : Int → Int} (h : LL (PQ (Q0 (KG g p) O (g (p + 1))) A B i) tm ks m) (o : OdR B A n O) (e : i = n) : LL (Oc g p O) tm ks m := by
  rw [e] at h
  exact h.cg (pq_oc o)
theorem kg_rg {g : Int → Int} {p : Int} (h8 : g (p + 8) ≤ 36524) (h10 : 0 ≤ g (p + 10)) : ∀ d : Int, KG g p d → 0 ≤ d ∧ d ≤ 36524 := fun d z => by
  have z1 := z.at
  have z2 : HI (g (p + 8)) ≤ 36524 := by unfold HI; split <;> omega
  omega
set_option maxHeartbeats 4000000 in
set_option maxRecDepth 100000 in
theorem c_J9_floorDiv_7cf53_q {Z : Zt} (zo : Zok Z) (l : Launch) (D : va_G) (cy : Cy) (L0 : List Nat) (f0 : Nat → va_E) (x0 : Int) (lx0 : -2147483648 ≤ x0) (ux0 : x0 ≤ 2147483647) (x1 : Int) (lx1 : -2147483648 ≤ x1) (ux1 : x1 ≤ 2147483647) (h1 : x1 = 1440) (h2 : -1000000000 ≤ x0) (h3 : x0 ≤ 1000000000) : Ci Z l yJ9_floorDiv_7cf53 (Cond.code yJ9_floorDiv_7cf53 cJ9_floorDiv_7cf53 3 (some .int) :: TB) ({ frames := 0, cells := 0, slots := 0, locals := 0 } : Room) 0 0 D (tq cy) [.int (iI x0), .int (iI x1)] L0 f0 (fun (r : Int) (L1 : List Nat) (f1 : Nat → va_E) => L0 = L1 ∧ f0 = f1 ∧ (r = x0 / 1440)) := by
  refine Ci.enter (cc := cJ9_floorDiv_7cf53) (n := 3) rfl (by decide +kernel) (Nat.le_of_ble_eq_true rfl) ?_
  intro p e s m below meth c ls A hx hb hr hts hown hlocks hnm hml hK hA hAe hw hZ hl
  have hown : s.vm.findClass RJ9 = some m.cls := hown
  have hl : lv_has ls 3 [(0, .int (iI x0)), (1, .int (iI x1))] := hl
  have hN : ZN s := (zo.2.2.2.2 _ _ _ hZ).2
  refine lv_iload_n hx hb dJ9_floorDiv_7cf53_0 rfl (lv_at hl 0 rfl) ?_
  refine lv_iload_n hx hb dJ9_floorDiv_7cf53_1 rfl (lv_at hl 1 rfl) ?_
  refine q_idivt hx hb dJ9_floorDiv_7cf53_2 ⟨lx0, ux0⟩ ⟨lx1, ux1⟩ (by omega) (fun x_1 lx_1 ux_1 ex_1 => ?_)
  rw [h1] at ex_1
  have d2 := ex_1
  refine lv_istore_n (lv' := [(2, .int (iI x_1)), (0, .int (iI x0)), (1, .int (iI x1))]) hx hb dJ9_floorDiv_7cf53_3 rfl hl (by decide) rfl (fun ls hl => ?_)
  refine lv_iload_n hx hb dJ9_floorDiv_7cf53_4 rfl (lv_at hl 1 rfl) ?_
  refine lv_iload_n hx hb dJ9_floorDiv_7cf53_5 rfl (lv_at hl 2 rfl) ?_
  refine lv_ixor hx hb dJ9_floorDiv_7cf53_6 ?_
  refine q_num (fun x_2 lx_2 ux_2 ex_2 => ?_)
  have n6 : x_2 < 0 ↔ x0 < 0 := by rw [ex_2]; exact xor_neg ⟨lx0, ux0⟩ ⟨lx1, ux1⟩ (by omega)
  refine q_if_ge (tgt := 21) hx hb dJ9_floorDiv_7cf53_7 (by decide) ⟨lx_2, ux_2⟩ (fun c7 => ?_) (fun c7 => ?_)
  · refine lv_iload_n hx hb dJ9_floorDiv_7cf53_21 rfl (lv_at hl 0 rfl) ?_
    exact q_ret_i hx hb hr hlocks hK hAe hw ⟨lx_1, ux_1⟩ (Nat.le_of_ble_eq_true rfl) (Nat.le_of_ble_eq_true rfl) dJ9_floorDiv_7cf53_22 ⟨rfl, rfl, by exact fdiv_ret d2 n6 (by omega)⟩
  · refine lv_iload_n hx hb dJ9_floorDiv_7cf53_10 rfl (lv_at hl 0 rfl) ?_
    refine lv_iload_n hx hb dJ9_floorDiv_7cf53_11 rfl (lv_at hl 2 rfl) ?_
    refine lv_imul hx hb dJ9_floorDiv_7cf53_12 ?_
    refine q_num (fun x_3 lx_3 ux_3 ex_3 => ?_)
    have m12 : x_3 = x_1 * 1440 := by rw [ex_3, h1, iI_mul, iI_toInt ⟨by omega, by omega⟩]
    refine lv_iload_n hx hb dJ9_floorDiv_7cf53_13 rfl (lv_at hl 1 rfl) ?_
    refine q_icmp_eq (tgt := 21) hx hb dJ9_floorDiv_7cf53_14 (by decide) ⟨lx_3, ux_3⟩ ⟨lx0, ux0⟩ (fun c14 => ?_) (fun c14 => ?_)
    · refine lv_iload_n hx hb dJ9_floorDiv_7cf53_21 rfl (lv_at hl 0 rfl) ?_
      exact q_ret_i hx hb hr hlocks hK hAe hw ⟨lx_1, ux_1⟩ (Nat.le_of_ble_eq_true rfl) (Nat.le_of_ble_eq_true rfl) dJ9_floorDiv_7cf53_22 ⟨rfl, rfl, by exact fdiv_ret d2 n6 (by omega)⟩
    · refine lv_iload_n hx hb dJ9_floorDiv_7cf53_17 rfl (lv_at hl 0 rfl) ?_
      refine q_iconst hx hb dJ9_floorDiv_7cf53_18 ?_
      refine lv_isub hx hb dJ9_floorDiv_7cf53_19 ?_
      refine q_num (fun x_4 lx_4 ux_4 ex_4 => ?_)
      have m19 : x_4 = x_1 - 1 := by rw [ex_4, iI_sub, iI_toInt ⟨by omega, by omega⟩]
      exact q_ret_i hx hb hr hlocks hK hAe hw ⟨lx_4, ux_4⟩ (Nat.le_of_ble_eq_true rfl) (Nat.le_of_ble_eq_true rfl) dJ9_floorDiv_7cf53_20 ⟨rfl, rfl, by exact fdiv_ret d2 n6 (by omega)⟩
set_option maxHeartbeats 4000000 in
set_option maxRecDepth 100000 in
theorem c_X0_ruledTo_q {Z : Zt} (zo : Zok Z) (l : Launch) (D : va_G) (cy : Cy) (L0 : List Nat) (f0 : Nat → va_E) (a0 : Nat) (x1 : Int) (lx1 : -2147483648 ≤ x1) (ux1 : x1 ≤ 2147483647) (m_a0 : a0 ∈ L0) (o_a0 : Ob f0 a0 0) (hg : GI cy L0 f0) (m0 : 0 ≤ fI f0 a0 1) (m1 : fI f0 a0 1 ≤ 1439) (u0 : -100000000 ≤ x1) (u1 : x1 ≤ 100000000) : Ci Z l yX0_ruledTo (Cond.code yX0_ruledTo cX0_ruledTo 2 (some .int) :: TB) ({ frames := 1, cells := 0, slots := 0, locals := 22 } : Room) 0 0 D (tq cy) [.ref a0, .int (iI x1)] L0 f0 (fun (r : Int) (L1 : List Nat) (f1 : Nat → va_E) => L0 = L1 ∧ f0 = f1 ∧ (1440 * r + fI f0 a0 1 ≤ x1 ∧ x1 < 1440 * (r + 1) + fI f0 a0 1)) := by
  refine Ci.enter (cc := cX0_ruledTo) (n := 2) rfl (plainFor_of_name (by decide)) (Nat.le_of_ble_eq_true rfl) ?_
  intro p e s m below meth c ls A hx hb hr hts hown hlocks hnm hml hK hA hAe hw hZ hl
  have hown : s.vm.findClass RX0 = some m.cls := hown
  have hl : lv_has ls 2 [(0, .ref a0), (1, .int (iI x1))] := hl
  have hN : ZN s := (zo.2.2.2.2 _ _ _ hZ).2
  refine lv_iload_n hx hb dX0_ruledTo_0 rfl (lv_at hl 1 rfl) ?_
  refine lv_aload_n hx hb dX0_ruledTo_1 rfl (lv_at hl 0 rfl) ?_
  refine q_geti (ci := 0) (C := RX0) (T := TX0) (N := 15) hx hb hts (fun w h => List.mem_cons_of_mem _ (mfX00 w h)) hown hK hw m_a0 o_a0 rfl 1 (by decide) (hts _ (List.mem_cons_of_mem _ (mr29 _ (List.mem_of_getElem? (i := 18) rfl)))) (fun _ h => h) rfl dX0_ruledTo_2 (fun x_1 lx_1 ux_1 ex_1 => ?_)
  first | refine q_isub hx hb dX0_ruledTo_5 ⟨by omega, by omega⟩ (fun x_2 lx_2 ux_2 ex_2 => ?_) | refine q_isubw hx hb dX0_ruledTo_5 (fun x_2 lx_2 ux_2 _ => ?_)
  refine q_sipush hx hb dX0_ruledTo_6 rfl ?_
  refine q_call_i hA hK hw (va_runS (As := [.int (iI x_2), .int (iI 1440)]) (rest := []) ⟨hx, hb, hml, hown, hts⟩ (c_J9_floorDiv_7cf53_q zo l D cy L0 f0 x_2 lx_2 ux_2 1440 (by decide) (by decide) (by omega) (by omega) (by omega) _) (va_cwS 2 hts (gT (inS (mr29 _ (List.mem_of_getElem? (i := 19) rfl)) (mr29 _ (List.mem_of_getElem? (i := 20) rfl)) (mr29 _ (List.mem_of_getElem? (i := 21) rfl)) (mr29 _ (List.mem_of_getElem? (i := 22) rfl)))) rfl rfl rfl (by decide +kernel) ⟨Nat.le_of_ble_eq_true rfl, Nat.le_of_ble_eq_true rfl⟩) (Wd.preS zo hA hZ hw hK) rfl rfl hl.1 rfl (lv_room (Nat.le_of_ble_eq_true rfl)) dX0_ruledTo_9 ⟨Nat.le_of_ble_eq_true rfl, Nat.le_of_ble_eq_true rfl⟩) (fun x_3 L1 f1 H locs lx_3 ux_3 ex_3 hw => ?_)
  obtain ⟨rfl, rfl, ex_3⟩ := ex_3
  exact q_ret_i hx hb hr hlocks hK hAe hw ⟨lx_3, ux_3⟩ (Nat.le_of_ble_eq_true rfl) (Nat.le_of_ble_eq_true rfl) dX0_ruledTo_12 ⟨rfl, rfl, by omega⟩
set_option maxHeartbeats 4000000 in
set_option maxRecDepth 100000 in
theorem c_X0_timeOf_q {Z : Zt} (zo : Zok Z) (l : Launch) (D : va_G) (cy : Cy) (L0 : List Nat) (f0 : Nat → va_E) (a0 : Nat) (x1 : Int) (lx1 : -2147483648 ≤ x1) (ux1 : x1 ≤ 2147483647) (m_a0 : a0 ∈ L0) (o_a0 : Ob f0 a0 0) (hg : GI cy L0 f0) (m0 : 0 ≤ fI f0 a0 1) (m1 : fI f0 a0 1 ≤ 1439) (d0 : -40000 ≤ x1) (d1 : x1 ≤ 40000) : Ci Z l yX0_timeOf (Cond.code yX0_timeOf cX0_timeOf 2 (some .int) :: TB) ({ frames := 0, cells := 0, slots := 0, locals := 0 } : Room) 0 0 D (tq cy) [.ref a0, .int (iI x1)] L0 f0 (fun (r : Int) (L1 : List Nat) (f1 : Nat → va_E) => L0 = L1 ∧ f0 = f1 ∧ (r = 1440 * x1 + fI f0 a0 1)) := by
  refine Ci.enter (cc := cX0_timeOf) (n := 2) rfl (plainFor_of_name (by decide)) (Nat.le_of_ble_eq_true rfl) ?_
  intro p e s m below meth c ls A hx hb hr hts hown hlocks hnm hml hK hA hAe hw hZ hl
  have hown : s.vm.findClass RX0 = some m.cls := hown
  have hl : lv_has ls 2 [(0, .ref a0), (1, .int (iI x1))] := hl
  have hN : ZN s := (zo.2.2.2.2 _ _ _ hZ).2
  refine lv_iload_n hx hb dX0_timeOf_0 rfl (lv_at hl 1 rfl) ?_
  refine q_sipush hx hb dX0_timeOf_1 rfl ?_
  first | refine q_imul hx hb dX0_timeOf_4 ⟨by omega, by omega⟩ (fun x_1 lx_1 ux_1 ex_1 => ?_) | refine q_imulw hx hb dX0_timeOf_4 (fun x_1 lx_1 ux_1 _ => ?_)
  refine lv_aload_n hx hb dX0_timeOf_5 rfl (lv_at hl 0 rfl) ?_
  refine q_geti (ci := 0) (C := RX0) (T := TX0) (N := 15) hx hb hts (fun w h => List.mem_cons_of_mem _ (mfX00 w h)) hown hK hw m_a0 o_a0 rfl 1 (by decide) (hts _ (List.mem_cons_of_mem _ (mr29 _ (List.mem_of_getElem? (i := 18) rfl)))) (fun _ h => h) rfl dX0_timeOf_6 (fun x_2 lx_2 ux_2 ex_2 => ?_)
  first | refine q_iadd hx hb dX0_timeOf_9 ⟨by omega, by omega⟩ (fun x_3 lx_3 ux_3 ex_3 => ?_) | refine q_iaddw hx hb dX0_timeOf_9 (fun x_3 lx_3 ux_3 _ => ?_)
  exact q_ret_i hx hb hr hlocks hK hAe hw ⟨lx_3, ux_3⟩ (Nat.le_of_ble_eq_true rfl) (Nat.le_of_ble_eq_true rfl) dX0_timeOf_10 ⟨rfl, rfl, by omega⟩
set_option maxHeartbeats 4000000 in
set_option maxRecDepth 100000 in
theorem c_X0_seekAhead_o {Z : Zt} (zo : Zok Z) (l : Launch) (D : va_G) (cy : Cy) (L0 : List Nat) (f0 : Nat → va_E) (a0 : Nat) (x1 : Int) (lx1 : -2147483648 ≤ x1) (ux1 : x1 ≤ 2147483647) (m_a0 : a0 ∈ L0) (o_a0 : Ob f0 a0 0) (hg : GI cy L0 f0) (g : Int → Int) (p0 : Int) (rb : RB f0 a0 g p0) (O : Int → Int) (oc : OC f0 a0 O) (hk : OKk g p0 O) (m0 : 0 ≤ g (p0 + 1)) (m1 : g (p0 + 1) ≤ 1439) (u0 : -90000000 ≤ x1) (u1 : x1 ≤ 100000000) : Ci Z l yX0_seekAhead (Cond.code yX0_seekAhead cX0_seekAhead 6 (some .boolean) :: TB) ({ frames := 4, cells := 0, slots := 0, locals := 88 } : Room) 0 0 D (tq cy) [.ref a0, .int (iI x1)] L0 f0 (fun (r : Int) (L1 : List Nat) (f1 : Nat → va_E) => L0 = L1 ∧ GI cy L0 f1 ∧ Eh cy f0 f1 ∧ (Sa (Oc g p0 O) x1 (fI f1 a0 13) (fI f1 a0 14) ∧ ((r = 1 ∧ fI f1 a0 14 ≠ -1) ∨ (r = 0 ∧ fI f1 a0 14 = -1)))) := by
  refine Ci.enter (cc := cX0_seekAhead) (n := 6) rfl (plainFor_of_name (by decide)) (Nat.le_of_ble_eq_true rfl) ?_
  intro p e s m below meth c ls A hx hb hr hts hown hlocks hnm hml hK hA hAe hw hZ hl
  have hown : s.vm.findClass RX0 = some m.cls := hown
  have hl : lv_has ls 6 [(0, .ref a0), (1, .int (iI x1))] := hl
  have hN : ZN s := (zo.2.2.2.2 _ _ _ hZ).2
  have hE : Eh cy f0 f0 := Eh.refl cy f0
  have bb : 0 ≤ fI f0 a0 10 ∧ fI f0 a0 10 ≤ 16 := hg.1 _ m_a0 0 10 o_a0
  have hrq : ∀ d : Int, KG g p0 d → 0 ≤ d ∧ d ≤ 36524 := fun d z => by have := rb.2.1.rg z; omega
  have em : fI f0 a0 1 = g (p0 + 1) := rb.1.1.2.1
  have od : OdR (aI f0 (KA f0 a0)) (aI f0 (TA f0 a0)) (fI f0 a0 10) O := oc
  have nc := od.card bb.1 hk.kb
  have tb : ∀ i : Int, 0 ≤ i → i < fI f0 a0 10 → aI f0 (TA f0 a0) i ≤ 52595999 ∧ -1 ≤ aI f0 (TA f0 a0) i := fun i i0 i1 => by have w := od.at i0 i1 rfl; have v := (hk _ w.2.1).2.2.2; omega
  refine lv_aload_n hx hb dX0_seekAhead_0 rfl (lv_at hl 0 rfl) ?_
  refine lv_aload_n hx hb dX0_seekAhead_1 rfl (lv_at hl 0 rfl) ?_
  refine lv_iload_n hx hb dX0_seekAhead_2 rfl (lv_at hl 1 rfl) ?_
  refine q_iconst hx hb dX0_seekAhead_3 ?_
  first | refine q_isub hx hb dX0_seekAhead_4 ⟨by omega, by omega⟩ (fun x_1 lx_1 ux_1 ex_1 => ?_) | refine q_isubw hx hb dX0_seekAhead_4 (fun x_1 lx_1 ux_1 _ => ?_)
  refine q_call_i hA hK hw (va_runV (As := [.int (iI x_1)]) (rest := [.ref a0]) ⟨hx, hb, hml, hown, hts⟩ (c_X0_ruledTo_q zo l D cy L0 f0 a0 x_1 lx_1 ux_1 m_a0 o_a0 hg (by omega) (by omega) (by omega) (by omega) _) (cwV 1 hts (gT (inV (mr30 _ (List.mem_of_getElem? (i := 23) rfl)) (mr31 _ (List.mem_of_getElem? (i := 0) rfl)) (mr31 _ (List.mem_of_getElem? (i := 1) rfl)) (mr2 _ (List.mem_of_getElem? (i := 9) rfl)) (mr31 _ (List.mem_of_getElem? (i := 2) rfl)))) rfl rfl rfl (by decide +kernel) ⟨Nat.le_of_ble_eq_true rfl, Nat.le_of_ble_eq_true rfl⟩) (Wd.preV zo hA hZ hw hK m_a0 o_a0 rfl) rfl rfl hl.1 rfl (lv_room (Nat.le_of_ble_eq_true rfl)) dX0_seekAhead_5 ⟨Nat.le_of_ble_eq_true rfl, Nat.le_of_ble_eq_true rfl⟩) (fun x_2 L1 f1 H locs lx_2 ux_2 ex_2 hw => ?_)
  obtain ⟨rfl, rfl, ex_2⟩ := ex_2
  obtain ⟨aa, eaa⟩ : ∃ z : Int, z = x_2 := ⟨_, rfl⟩
  have h5 := ex_2
  rw [← eaa] at h5
  refine q_call_i hA hK hw (va_runV (As := [.int (iI x_2)]) (rest := []) ⟨hx, hb, hml, hown, hts⟩ (c_X0_keyTo_g zo l D cy L0 f0 a0 x_2 lx_2 ux_2 m_a0 o_a0 hg g p0 rb _) (cwV 1 hts (gT (inV (mr31 _ (List.mem_of_getElem? (i := 3) rfl)) (mr31 _ (List.mem_of_getElem? (i := 4) rfl)) (mr31 _ (List.mem_of_getElem? (i := 5) rfl)) (mr2 _ (List.mem_of_getElem? (i := 9) rfl)) (mr31 _ (List.mem_of_getElem? (i := 6) rfl)))) rfl rfl rfl (by decide +kernel) ⟨Nat.le_of_ble_eq_true rfl, Nat.le_of_ble_eq_true rfl⟩) (Wd.preV zo hA hZ hw hK m_a0 o_a0 rfl) rfl rfl hl.1 rfl (lv_room (Nat.le_of_ble_eq_true rfl)) dX0_seekAhead_8 ⟨Nat.le_of_ble_eq_true rfl, Nat.le_of_ble_eq_true rfl⟩) (fun x_3 L1 f1 H locs lx_3 ux_3 ex_3 hw => ?_)
  obtain ⟨rfl, rfl, ex_3⟩ := ex_3
  have f8 : Lst (KG g p0) aa x_3 := by rw [eaa]; exact ex_3
  have b8 := f8.kb hrq
  clear ex_3
  refine lv_istore_n (lv' := [(2, .int (iI x_3)), (0, .ref a0), (1, .int (iI x1))]) hx hb dX0_seekAhead_11 rfl hl (by decide) rfl (fun ls hl => ?_)
  refine q_iconst hx hb dX0_seekAhead_12 ?_
  refine lv_istore_n (lv' := [(3, .int (iI 0)), (2, .int (iI x_3)), (0, .ref a0), (1, .int (iI x1))]) hx hb dX0_seekAhead_13 rfl hl (by decide) rfl (fun ls hl => ?_)
  have J14 : ∀ (n14 : Nat) (y2_14 : Int) (ly2_14 : -2147483648 ≤ y2_14) (uy2_14 : y2_14 ≤ 2147483647) (y3_14 : Int) (ly3_14 : -2147483648 ≤ y3_14) (uy3_14 : y3_14 ≤ 2147483647) (i1 : 0 ≤ y3_14) (b5 : y2_14 = -1 ∨ (0 ≤ y2_14 ∧ y2_14 ≤ 36524)) (lr : LR (KG g p0) O aa y2_14 y3_14) (hn14 : ((2147483647 : Int) - y3_14).toNat < n14) (H : Heap) (locs : List Loc) (ls : Array Slot) (hw : Wd D A s.heap L0 f0 H locs) (hl : lv_has ls 6 [(0, .ref a0), (1, .int (iI x1)), (2, .int (iI y2_14)), (3, .int (iI y3_14))]), W p l e ({ frames := 4, cells := 0, slots := 0, locals := 88 } : Room) s m ([.ref a0, .int (iI x1)] : List Value).toArray below meth c H locs (0 + 0 + 0) (0 + 0 + 0) (MQ below (Qi D (tq cy) L0 f0 s.heap.size (fun (r : Int) (L1 : List Nat) (f1 : Nat → va_E) => L0 = L1 ∧ GI cy L0 f1 ∧ Eh cy f0 f1 ∧ (Sa (Oc g p0 O) x1 (fI f1 a0 13) (fI f1 a0 14) ∧ ((r = 1 ∧ fI f1 a0 14 ≠ -1) ∨ (r = 0 ∧ fI f1 a0 14 = -1))))) ([.ref a0, .int (iI x1)] : List Value).toArray s 0 0 A) (F0 m 14 ls []) := by
    intro n14
    induction n14 with
    | zero => intro y2_14 ly2_14 uy2_14 y3_14 ly3_14 uy3_14 i1 b5 lr hn14; exact absurd hn14 (Nat.not_lt_zero _)
    | succ n14 ih14 =>
      intro y2_14 ly2_14 uy2_14 y3_14 ly3_14 uy3_14 i1 b5 lr hn14 H locs ls hw hl
      refine lv_iload_n hx hb dX0_seekAhead_14 rfl (lv_at hl 3 rfl) ?_
      refine lv_aload_n hx hb dX0_seekAhead_15 rfl (lv_at hl 0 rfl) ?_
      refine q_geti (ci := 0) (C := RX0) (T := TX0) (N := 15) hx hb hts (fun w h => List.mem_cons_of_mem _ (mfX00 w h)) hown hK hw m_a0 o_a0 rfl 10 (by decide) (hts _ (List.mem_cons_of_mem _ (mr14 _ (List.mem_of_getElem? (i := 9) rfl)))) (fun _ h => h) rfl dX0_seekAhead_16 (fun x_4 lx_4 ux_4 ex_4 => ?_)
      have bx_4 : 0 ≤ x_4 ∧ x_4 ≤ 16 := by rw [ex_4]; exact hg.1 _ m_a0 0 10 o_a0
      have J50 : ∀ (b4 : y2_14 = -1 ∨ (0 ≤ y2_14 ∧ y2_14 ≤ 36524)) (ry : RY (KG g p0) O aa y2_14) (H : Heap) (locs : List Loc) (ls : Array Slot) (hw : Wd D A s.heap L0 f0 H locs) (hl : lv_has ls 6 [(0, .ref a0), (1, .int (iI x1)), (2, .int (iI y2_14))]), W p l e ({ frames := 4, cells := 0, slots := 0, locals := 88 } : Room) s m ([.ref a0, .int (iI x1)] : List Value).toArray below meth c H locs (0 + 0 + 0) (0 + 0 + 0) (MQ below (Qi D (tq cy) L0 f0 s.heap.size (fun (r : Int) (L1 : List Nat) (f1 : Nat → va_E) => L0 = L1 ∧ GI cy L0 f1 ∧ Eh cy f0 f1 ∧ (Sa (Oc g p0 O) x1 (fI f1 a0 13) (fI f1 a0 14) ∧ ((r = 1 ∧ fI f1 a0 14 ≠ -1) ∨ (r = 0 ∧ fI f1 a0 14 = -1))))) ([.ref a0, .int (iI x1)] : List Value).toArray s 0 0 A) (F0 m 50 ls []) := by
        intro b4 ry H locs ls hw hl
        refine lv_aload_n hx hb dX0_seekAhead_50 rfl (lv_at hl 0 rfl) ?_
        refine lv_iload_n hx hb dX0_seekAhead_51 rfl (lv_at hl 2 rfl) ?_
        refine q_puti (ci := 0) (C := RX0) (T := TX0) (N := 15) hx hb hts (fun w h => List.mem_cons_of_mem _ (mfX00 w h)) hown hK hw m_a0 o_a0 rfl 14 (by decide) (hts _ (List.mem_cons_of_mem _ (mr29 _ (List.mem_of_getElem? (i := 11) rfl)))) (fun _ h => h) tyX0 tyX0_ok nmX0 rfl (ty := .int) (by decide +kernel) rfl rfl dX0_seekAhead_52 (fun H locs hw => ?_)
        have oo := o_a0
        obtain ⟨f_5, ef_5⟩ : ∃ g : Nat → va_E, g = pU f0 a0 14 (.int (iI y2_14)) := ⟨_, rfl⟩
        have hX : Eh cy f0 f_5 := by rw [ef_5]; exact Eh_pU oo rfl rfl (by decide)
        have hg : GI cy L0 f_5 := by rw [ef_5]; exact hg.putI oo rfl ⟨ly2_14, uy2_14⟩ trivial
        rw [← ef_5] at hw
        have hE := hE.trans hX
        have o_a0 := hX.1.1.1 _ _ o_a0
        have t_a0_13_f_5 : fI f_5 a0 13 = fI f0 a0 13 := by rw [ef_5]; exact fI_pU (Or.inr (by decide))
        have vf_5 : fI f_5 a0 14 = y2_14 := by rw [ef_5]; exact fI_pU_self oo rfl ⟨ly2_14, uy2_14⟩
        have em1 : fI f_5 a0 1 = g (p0 + 1) := (fI_W (hE.2.1 a0 1 (by decide) (by decide))).trans em
        have v14 := vf_5
        refine lv_aload_n hx hb dX0_seekAhead_55 rfl (lv_at hl 0 rfl) ?_
        refine lv_iload_n hx hb dX0_seekAhead_56 rfl (lv_at hl 2 rfl) ?_
        refine q_iconst hx hb dX0_seekAhead_57 ?_
        have J70 : ∀ (w0_70 : Int) (lw0_70 : -2147483648 ≤ w0_70) (uw0_70 : w0_70 ≤ 2147483647) (k70 : (w0_70 = -1 ∧ y2_14 = -1) ∨ (w0_70 = 1440 * y2_14 + g (p0 + 1) ∧ y2_14 ≠ -1)) (H : Heap) (locs : List Loc) (ls : Array Slot) (hw : Wd D A s.heap L0 f_5 H locs) (hl : lv_has ls 6 [(0, .ref a0), (1, .int (iI x1))]), W p l e ({ frames := 4, cells := 0, slots := 0, locals := 88 } : Room) s m ([.ref a0, .int (iI x1)] : List Value).toArray below meth c H locs (0 + 0 + 0) (0 + 0 + 0) (MQ below (Qi D (tq cy) L0 f0 s.heap.size (fun (r : Int) (L1 : List Nat) (f1 : Nat → va_E) => L0 = L1 ∧ GI cy L0 f1 ∧ Eh cy f0 f1 ∧ (Sa (Oc g p0 O) x1 (fI f1 a0 13) (fI f1 a0 14) ∧ ((r = 1 ∧ fI f1 a0 14 ≠ -1) ∨ (r = 0 ∧ fI f1 a0 14 = -1))))) ([.ref a0, .int (iI x1)] : List Value).toArray s 0 0 A) (F0 m 70 ls [.int (iI w0_70), .ref a0]) := by
          intro w0_70 lw0_70 uw0_70 k70 H locs ls hw hl
          refine q_puti (ci := 0) (C := RX0) (T := TX0) (N := 15) hx hb hts (fun w h => List.mem_cons_of_mem _ (mfX00 w h)) hown hK hw m_a0 o_a0 rfl 13 (by decide) (hts _ (List.mem_cons_of_mem _ (mr29 _ (List.mem_of_getElem? (i := 13) rfl)))) (fun _ h => h) tyX0 tyX0_ok nmX0 rfl (ty := .int) (by decide +kernel) rfl rfl dX0_seekAhead_70 (fun H locs hw => ?_)
          have oo := o_a0
          obtain ⟨f_6, ef_6⟩ : ∃ g : Nat → va_E, g = pU f_5 a0 13 (.int (iI w0_70)) := ⟨_, rfl⟩
          have hX : Eh cy f_5 f_6 := by rw [ef_6]; exact Eh_pU oo rfl rfl (by decide)
          have hg : GI cy L0 f_6 := by rw [ef_6]; exact hg.putI oo rfl ⟨lw0_70, uw0_70⟩ trivial
          rw [← ef_6] at hw
          have hE := hE.trans hX
          have o_a0 := hX.1.1.1 _ _ o_a0
          have t_a0_14_f_6 : fI f_6 a0 14 = fI f_5 a0 14 := by rw [ef_6]; exact fI_pU (Or.inr (by decide))
          have vf_6 : fI f_6 a0 13 = w0_70 := by rw [ef_6]; exact fI_pU_self oo rfl ⟨lw0_70, uw0_70⟩
          have sk0 : Sa (PQ (Q0 (KG g p0) O (g (p0 + 1))) (aI f0 (TA f0 a0)) (aI f0 (KA f0 a0)) 0) x1 (fI f_6 a0 13) (fI f_6 a0 14) := by rw [vf_6, t_a0_14_f_6, v14]; exact (ry.sa (by omega) (by omega) hrq (by omega)).cg (fun t k => PQ.zero (by omega))
          refine q_iconst hx hb dX0_seekAhead_73 ?_
          refine lv_istore_n (lv' := [(3, .int (iI 0)), (0, .ref a0), (1, .int (iI x1))]) hx hb dX0_seekAhead_74 rfl hl (by decide) rfl (fun ls hl => ?_)
          have J75 : ∀ (n75 : Nat) (y3_75 : Int) (ly3_75 : -2147483648 ≤ y3_75) (uy3_75 : y3_75 ≤ 2147483647) (L : List Nat) (fw75 : Nat → va_E) (hg : GI cy L0 fw75) (hE : Eh cy f0 fw75) (o_a0 : Ob fw75 a0 0) (i1 : 0 ≤ y3_75) (i2 : y3_75 ≤ fI f0 a0 10) (sk : Sa (PQ (Q0 (KG g p0) O (g (p0 + 1))) (aI f0 (TA f0 a0)) (aI f0 (KA f0 a0)) y3_75) x1 (fI fw75 a0 13) (fI fw75 a0 14)) (hn75 : ((2147483647 : Int) - y3_75).toNat < n75) (H : Heap) (locs : List Loc) (ls : Array Slot) (hw : Wd D A s.heap L0 fw75 H locs) (hl : lv_has ls 6 [(0, .ref a0), (1, .int (iI x1)), (3, .int (iI y3_75))]), W p l e ({ frames := 4, cells := 0, slots := 0, locals := 88 } : Room) s m ([.ref a0, .int (iI x1)] : List Value).toArray below meth c H locs (0 + 0 + 0) (0 + 0 + 0) (MQ below (Qi D (tq cy) L0 f0 s.heap.size (fun (r : Int) (L1 : List Nat) (f1 : Nat → va_E) => L0 = L1 ∧ GI cy L0 f1 ∧ Eh cy f0 f1 ∧ (Sa (Oc g p0 O) x1 (fI f1 a0 13) (fI f1 a0 14) ∧ ((r = 1 ∧ fI f1 a0 14 ≠ -1) ∨ (r = 0 ∧ fI f1 a0 14 = -1))))) ([.ref a0, .int (iI x1)] : List Value).toArray s 0 0 A) (F0 m 75 ls []) := by
            intro n75
            induction n75 with
            | zero => intro y3_75 ly3_75 uy3_75 L fw75 hg hE o_a0 i1 i2 sk hn75; exact absurd hn75 (Nat.not_lt_zero _)
            | succ n75 ih75 =>
              intro y3_75 ly3_75 uy3_75 L fw75 hg hE o_a0 i1 i2 sk hn75 H locs ls hw hl
              have KAf : KA fw75 a0 = KA f0 a0 := KA_W (hE.2.1 a0 11 (by decide) (by decide))
              have TAf : TA fw75 a0 = TA f0 a0 := TA_W (hE.2.1 a0 12 (by decide) (by decide))
              have n10 : fI fw75 a0 10 = fI f0 a0 10 := fI_W (hE.2.1 a0 10 (by decide) (by decide))
              have arr : ∀ (y : Nat) (j : Int), aI fw75 y j = aI f0 y j := hE.2.2.2.2
              refine lv_iload_n hx hb dX0_seekAhead_75 rfl (lv_at hl 2 rfl) ?_
              refine lv_aload_n hx hb dX0_seekAhead_76 rfl (lv_at hl 0 rfl) ?_
              refine q_geti (ci := 0) (C := RX0) (T := TX0) (N := 15) hx hb hts (fun w h => List.mem_cons_of_mem _ (mfX00 w h)) hown hK hw m_a0 o_a0 rfl 10 (by decide) (hts _ (List.mem_cons_of_mem _ (mr14 _ (List.mem_of_getElem? (i := 9) rfl)))) (fun _ h => h) rfl dX0_seekAhead_77 (fun x_7 lx_7 ux_7 ex_7 => ?_)
              have bx_7 : 0 ≤ x_7 ∧ x_7 ≤ 16 := by rw [ex_7]; exact hg.1 _ m_a0 0 10 o_a0
              refine q_icmp_ge (tgt := 156) hx hb dX0_seekAhead_80 (by decide) ⟨ly3_75, uy3_75⟩ ⟨lx_7, ux_7⟩ (fun c80 => ?_) (fun c80 => ?_)
              · refine lv_aload_n hx hb dX0_seekAhead_156 rfl (lv_at hl 0 rfl) ?_
                refine q_geti (ci := 0) (C := RX0) (T := TX0) (N := 15) hx hb hts (fun w h => List.mem_cons_of_mem _ (mfX00 w h)) hown hK hw m_a0 o_a0 rfl 14 (by decide) (hts _ (List.mem_cons_of_mem _ (mr29 _ (List.mem_of_getElem? (i := 11) rfl)))) (fun _ h => h) rfl dX0_seekAhead_157 (fun x_8 lx_8 ux_8 ex_8 => ?_)
                refine q_iconst hx hb dX0_seekAhead_160 ?_
                refine q_icmp_eq (tgt := 168) hx hb dX0_seekAhead_161 (by decide) ⟨lx_8, ux_8⟩ ⟨by decide, by decide⟩ (fun c161 => ?_) (fun c161 => ?_)
                · refine q_iconst hx hb dX0_seekAhead_168 ?_
                  exact q_ret_z hx hb hr hlocks hK hAe hw (by omega) (Nat.le_of_ble_eq_true rfl) (Nat.le_of_ble_eq_true rfl) dX0_seekAhead_169 (by exact ⟨rfl, hg, hE, sk.oc od (by omega), by omega⟩)
                · refine q_iconst hx hb dX0_seekAhead_164 ?_
                  refine lv_goto (tgt := 169) hx hb dX0_seekAhead_165 (by decide) ?_
                  exact q_ret_z hx hb hr hlocks hK hAe hw (by omega) (Nat.le_of_ble_eq_true rfl) (Nat.le_of_ble_eq_true rfl) dX0_seekAhead_169 (by exact ⟨rfl, hg, hE, sk.oc od (by omega), by omega⟩)
              · refine lv_aload_n hx hb dX0_seekAhead_83 rfl (lv_at hl 0 rfl) ?_
                obtain ⟨r_9, er_9, m_r_9, o_r_9⟩ := (show ∃ r, fR fw75 a0 12 = some r ∧ r ∈ L0 ∧ ArI fw75 r cy.2.1 16 from hg.2.1 _ m_a0 0 12 o_a0)
                refine q_getr (ci := 0) (C := RX0) (T := TX0) (N := 15) hx hb hts (fun w h => List.mem_cons_of_mem _ (mfX00 w h)) hown hK hw m_a0 o_a0 rfl 12 (by decide) (hts _ (List.mem_cons_of_mem _ (mr3 _ (List.mem_of_getElem? (i := 3) rfl)))) (fun _ h => h) rfl er_9 dX0_seekAhead_84 ?_
                have k84 := TA_e er_9
                refine lv_iload_n hx hb dX0_seekAhead_87 rfl (lv_at hl 2 rfl) ?_
                refine q_iald hx hb hK hw m_r_9 1 o_r_9 rfl ⟨ly3_75, uy3_75⟩ (by omega) (by omega) dX0_seekAhead_88 (fun x_10 lx_10 ux_10 ex_10 => ?_)
                have h88 : x_10 = aI f0 (TA f0 a0) y3_75 := ex_10.trans (by rw [k84, TAf, arr])
                have t9 := tb y3_75 (by omega) (by omega)
                refine lv_istore (lv' := [(4, .int (iI x_10)), (0, .ref a0), (1, .int (iI x1)), (3, .int (iI y3_75))]) hx hb dX0_seekAhead_89 hl (by decide) rfl (fun ls hl => ?_)
                refine lv_aload_n hx hb dX0_seekAhead_91 rfl (lv_at hl 1 rfl) ?_
                obtain ⟨r_11, er_11, m_r_11, o_r_11⟩ := (show ∃ r, fR fw75 a0 11 = some r ∧ r ∈ L0 ∧ ArI fw75 r cy.2.1 16 from hg.2.1 _ m_a0 0 11 o_a0)
                refine q_getr (ci := 0) (C := RX0) (T := TX0) (N := 15) hx hb hts (fun w h => List.mem_cons_of_mem _ (mfX00 w h)) hown hK hw m_a0 o_a0 rfl 11 (by decide) (hts _ (List.mem_cons_of_mem _ (mr3 _ (List.mem_of_getElem? (i := 2) rfl)))) (fun _ h => h) rfl er_11 dX0_seekAhead_92 ?_
                have k92 := KA_e er_11
                refine lv_iload_n hx hb dX0_seekAhead_95 rfl (lv_at hl 3 rfl) ?_
                refine q_iald hx hb hK hw m_r_11 1 o_r_11 rfl ⟨ly3_75, uy3_75⟩ (by omega) (by omega) dX0_seekAhead_96 (fun x_12 lx_12 ux_12 ex_12 => ?_)
                have h96 : x_12 = aI f0 (KA f0 a0) y3_75 := ex_12.trans (by rw [k92, KAf, arr])
                refine lv_istore (lv' := [(5, .int (iI x_12)), (4, .int (iI x_10)), (0, .ref a0), (1, .int (iI x1)), (3, .int (iI y3_75))]) hx hb dX0_seekAhead_97 hl (by decide) rfl (fun ls hl => ?_)
                refine lv_iload hx hb dX0_seekAhead_99 (lv_at hl 1 rfl) ?_
                refine q_iconst hx hb dX0_seekAhead_101 ?_
                have J150 : ∀ (L : List Nat) (fw150 : Nat → va_E) (hg : GI cy L0 fw150) (hE : Eh cy f0 fw150) (o_a0 : Ob fw150 a0 0) (sk1 : Sa (PQ (Q0 (KG g p0) O (g (p0 + 1))) (aI f0 (TA f0 a0)) (aI f0 (KA f0 a0)) (y3_75 + 1)) x1 (fI fw150 a0 13) (fI fw150 a0 14)) (H : Heap) (locs : List Loc) (ls : Array Slot) (hw : Wd D A s.heap L0 fw150 H locs) (hl : lv_has ls 6 [(0, .ref a0), (1, .int (iI x1)), (3, .int (iI y3_75))]), W p l e ({ frames := 4, cells := 0, slots := 0, locals := 88 } : Room) s m ([.ref a0, .int (iI x1)] : List Value).toArray below meth c H locs (0 + 0 + 0) (0 + 0 + 0) (MQ below (Qi D (tq cy) L0 f0 s.heap.size (fun (r : Int) (L1 : List Nat) (f1 : Nat → va_E) => L0 = L1 ∧ GI cy L0 f1 ∧ Eh cy f0 f1 ∧ (Sa (Oc g p0 O) x1 (fI f1 a0 13) (fI f1 a0 14) ∧ ((r = 1 ∧ fI f1 a0 14 ≠ -1) ∨ (r = 0 ∧ fI f1 a0 14 = -1))))) ([.ref a0, .int (iI x1)] : List Value).toArray s 0 0 A) (F0 m 150 ls []) := by
                  intro L fw150 hg hE o_a0 sk1 H locs ls hw hl
                  obtain ⟨x_13, lx_13, ux_13, hx_13, ex_13⟩ := q_inc y3_75 (1)
                  try (replace ex_13 : x_13 = y3_75 + (1) := by omega)
                  refine lv_iinc (v := iI x_13) (lv' := [(3, .int (iI x_13)), (0, .ref a0), (1, .int (iI x1))]) hx hb dX0_seekAhead_150 hl (k := 2) rfl hx_13 (by decide) rfl (fun ls hl => ?_)
                  refine lv_goto (tgt := 75) hx hb dX0_seekAhead_153 (by decide) ?_
                  exact ih75 x_13 lx_13 ux_13 L0 fw150 hg hE o_a0 (by omega) (by omega) (by first | exact sk0 | exact sk1.to (by omega) | fail "none") (by omega) _ _ _ hw (lv_sub hl [1, 2, 0] rfl)
                refine q_icmp_eq (tgt := 150) hx hb dX0_seekAhead_102 (by decide) ⟨lx_10, ux_10⟩ ⟨by decide, by decide⟩ (fun c102 => ?_) (fun c102 => ?_)
                · exact J150 L0 fw75 hg hE o_a0 (by first | exact sk.no h88 h96 rfl (by omega) (by omega) (by omega) | exact sk2 | fail "none") _ _ _ hw (lv_sub hl [2, 3, 4] rfl)
                · refine lv_iload hx hb dX0_seekAhead_105 (lv_at hl 1 rfl) ?_
                  refine lv_iload_n hx hb dX0_seekAhead_107 rfl (lv_at hl 3 rfl) ?_
                  refine q_icmp_ge (tgt := 150) hx hb dX0_seekAhead_108 (by decide) ⟨lx_10, ux_10⟩ ⟨lx1, ux1⟩ (fun c108 => ?_) (fun c108 => ?_)
                  · exact J150 L0 fw75 hg hE o_a0 (by first | exact sk.no h88 h96 rfl (by omega) (by omega) (by omega) | exact sk2 | fail "none") _ _ _ hw (lv_sub hl [2, 3, 4] rfl)
                  · refine lv_iload hx hb dX0_seekAhead_111 (lv_at hl 1 rfl) ?_
                    refine lv_aload_n hx hb dX0_seekAhead_113 rfl (lv_at hl 2 rfl) ?_
                    refine q_geti (ci := 0) (C := RX0) (T := TX0) (N := 15) hx hb hts (fun w h => List.mem_cons_of_mem _ (mfX00 w h)) hown hK hw m_a0 o_a0 rfl 13 (by decide) (hts _ (List.mem_cons_of_mem _ (mr29 _ (List.mem_of_getElem? (i := 13) rfl)))) (fun _ h => h) rfl dX0_seekAhead_114 (fun x_14 lx_14 ux_14 ex_14 => ?_)
                    have J138 : ∀ (k138 : fI fw75 a0 13 < x_10 ∨ (x_10 = fI fw75 a0 13 ∧ fI fw75 a0 14 < x_12)) (H : Heap) (locs : List Loc) (ls : Array Slot) (hw : Wd D A s.heap L0 fw75 H locs) (hl : lv_has ls 6 [(0, .ref a0), (1, .int (iI x1)), (3, .int (iI y3_75)), (4, .int (iI x_10)), (5, .int (iI x_12))]), W p l e ({ frames := 4, cells := 0, slots := 0, locals := 88 } : Room) s m ([.ref a0, .int (iI x1)] : List Value).toArray below meth c H locs (0 + 0 + 0) (0 + 0 + 0) (MQ below (Qi D (tq cy) L0 f0 s.heap.size (fun (r : Int) (L1 : List Nat) (f1 : Nat → va_E) => L0 = L1 ∧ GI cy L0 f1 ∧ Eh cy f0 f1 ∧ (Sa (Oc g p0 O) x1 (fI f1 a0 13) (fI f1 a0 14) ∧ ((r = 1 ∧ fI f1 a0 14 ≠ -1) ∨ (r = 0 ∧ fI f1 a0 14 = -1))))) ([.ref a0, .int (iI x1)] : List Value).toArray s 0 0 A) (F0 m 138 ls []) := by
                      intro k138 H locs ls hw hl
                      refine lv_aload_n hx hb dX0_seekAhead_138 rfl (lv_at hl 0 rfl) ?_
                      refine lv_iload hx hb dX0_seekAhead_139 (lv_at hl 3 rfl) ?_
                      refine q_puti (ci := 0) (C := RX0) (T := TX0) (N := 15) hx hb hts (fun w h => List.mem_cons_of_mem _ (mfX00 w h)) hown hK hw m_a0 o_a0 rfl 13 (by decide) (hts _ (List.mem_cons_of_mem _ (mr29 _ (List.mem_of_getElem? (i := 13) rfl)))) (fun _ h => h) tyX0 tyX0_ok nmX0 rfl (ty := .int) (by decide +kernel) rfl rfl dX0_seekAhead_141 (fun H locs hw => ?_)
                      have oo := o_a0
                      obtain ⟨f_15, ef_15⟩ : ∃ g : Nat → va_E, g = pU fw75 a0 13 (.int (iI x_10)) := ⟨_, rfl⟩
                      have hX : Eh cy fw75 f_15 := by rw [ef_15]; exact Eh_pU oo rfl rfl (by decide)
                      have hg : GI cy L0 f_15 := by rw [ef_15]; exact hg.putI oo rfl ⟨lx_10, ux_10⟩ trivial
                      rw [← ef_15] at hw
                      have hE := hE.trans hX
                      have o_a0 := hX.1.1.1 _ _ o_a0
                      have t_a0_14_f_15 : fI f_15 a0 14 = fI fw75 a0 14 := by rw [ef_15]; exact fI_pU (Or.inr (by decide))
                      have vf_15 : fI f_15 a0 13 = x_10 := by rw [ef_15]; exact fI_pU_self oo rfl ⟨lx_10, ux_10⟩
                      have v13b := vf_15
                      refine lv_aload_n hx hb dX0_seekAhead_144 rfl (lv_at hl 0 rfl) ?_
                      refine lv_iload hx hb dX0_seekAhead_145 (lv_at hl 4 rfl) ?_
                      refine q_puti (ci := 0) (C := RX0) (T := TX0) (N := 15) hx hb hts (fun w h => List.mem_cons_of_mem _ (mfX00 w h)) hown hK hw m_a0 o_a0 rfl 14 (by decide) (hts _ (List.mem_cons_of_mem _ (mr29 _ (List.mem_of_getElem? (i := 11) rfl)))) (fun _ h => h) tyX0 tyX0_ok nmX0 rfl (ty := .int) (by decide +kernel) rfl rfl dX0_seekAhead_147 (fun H locs hw => ?_)
                      have oo := o_a0
                      obtain ⟨f_16, ef_16⟩ : ∃ g : Nat → va_E, g = pU f_15 a0 14 (.int (iI x_12)) := ⟨_, rfl⟩
                      have hX : Eh cy f_15 f_16 := by rw [ef_16]; exact Eh_pU oo rfl rfl (by decide)
                      have hg : GI cy L0 f_16 := by rw [ef_16]; exact hg.putI oo rfl ⟨lx_12, ux_12⟩ trivial
                      rw [← ef_16] at hw
                      have hE := hE.trans hX
                      have o_a0 := hX.1.1.1 _ _ o_a0
                      have t_a0_13_f_16 : fI f_16 a0 13 = fI f_15 a0 13 := by rw [ef_16]; exact fI_pU (Or.inr (by decide))
                      have vf_16 : fI f_16 a0 14 = x_12 := by rw [ef_16]; exact fI_pU_self oo rfl ⟨lx_12, ux_12⟩
                      have sk2 : Sa (PQ (Q0 (KG g p0) O (g (p0 + 1))) (aI f0 (TA f0 a0)) (aI f0 (KA f0 a0)) (y3_75 + 1)) x1 (fI f_16 a0 13) (fI f_16 a0 14) := by rw [vf_16, t_a0_13_f_16, v13b]; exact sk.yes h88 h96 rfl (by omega) (by omega) (by omega) k138
                      exact J150 L0 f_16 hg hE o_a0 (by first | exact sk.no h88 h96 rfl (by omega) (by omega) (by omega) | exact sk2 | fail "none") _ _ _ hw (lv_sub hl [0, 1, 2] rfl)
                    refine q_icmp_gt (tgt := 138) hx hb dX0_seekAhead_117 (by decide) ⟨lx_10, ux_10⟩ ⟨lx_14, ux_14⟩ (fun c117 => ?_) (fun c117 => ?_)
                    · exact J138 (by omega) _ _ _ hw (lv_sub hl [2, 3, 4, 1, 0] rfl)
                    · refine lv_iload hx hb dX0_seekAhead_120 (lv_at hl 1 rfl) ?_
                      refine lv_aload_n hx hb dX0_seekAhead_122 rfl (lv_at hl 2 rfl) ?_
                      refine q_geti (ci := 0) (C := RX0) (T := TX0) (N := 15) hx hb hts (fun w h => List.mem_cons_of_mem _ (mfX00 w h)) hown hK hw m_a0 o_a0 rfl 13 (by decide) (hts _ (List.mem_cons_of_mem _ (mr29 _ (List.mem_of_getElem? (i := 13) rfl)))) (fun _ h => h) rfl dX0_seekAhead_123 (fun x_17 lx_17 ux_17 ex_17 => ?_)
                      refine q_icmp_ne (tgt := 150) hx hb dX0_seekAhead_126 (by decide) ⟨lx_10, ux_10⟩ ⟨lx_17, ux_17⟩ (fun c126 => ?_) (fun c126 => ?_)
                      · exact J150 L0 fw75 hg hE o_a0 (by first | exact sk.no h88 h96 rfl (by omega) (by omega) (by omega) | exact sk2 | fail "none") _ _ _ hw (lv_sub hl [2, 3, 4] rfl)
                      · refine lv_iload hx hb dX0_seekAhead_129 (lv_at hl 0 rfl) ?_
                        refine lv_aload_n hx hb dX0_seekAhead_131 rfl (lv_at hl 2 rfl) ?_
                        refine q_geti (ci := 0) (C := RX0) (T := TX0) (N := 15) hx hb hts (fun w h => List.mem_cons_of_mem _ (mfX00 w h)) hown hK hw m_a0 o_a0 rfl 14 (by decide) (hts _ (List.mem_cons_of_mem _ (mr29 _ (List.mem_of_getElem? (i := 11) rfl)))) (fun _ h => h) rfl dX0_seekAhead_132 (fun x_18 lx_18 ux_18 ex_18 => ?_)
                        refine q_icmp_le (tgt := 150) hx hb dX0_seekAhead_135 (by decide) ⟨lx_12, ux_12⟩ ⟨lx_18, ux_18⟩ (fun c135 => ?_) (fun c135 => ?_)
                        · exact J150 L0 fw75 hg hE o_a0 (by first | exact sk.no h88 h96 rfl (by omega) (by omega) (by omega) | exact sk2 | fail "none") _ _ _ hw (lv_sub hl [2, 3, 4] rfl)
                        · exact J138 (by omega) _ _ _ hw (lv_sub hl [2, 3, 4, 1, 0] rfl)
          exact J75 ((((2147483647 : Int) - 0).toNat) + 1) 0 (by decide) (by decide) L0 f_6 hg hE o_a0 (by omega) (by omega) (by first | exact sk0 | exact sk1.to (by omega) | fail "none") (by omega) _ _ _ hw (lv_sub hl [1, 2, 0] rfl)
        refine q_icmp_ne (tgt := 65) hx hb dX0_seekAhead_58 (by decide) ⟨ly2_14, uy2_14⟩ ⟨by decide, by decide⟩ (fun c58 => ?_) (fun c58 => ?_)
        · refine lv_aload_n hx hb dX0_seekAhead_65 rfl (lv_at hl 0 rfl) ?_
          refine lv_iload_n hx hb dX0_seekAhead_66 rfl (lv_at hl 2 rfl) ?_
          refine q_call_i hA hK hw (va_runV (As := [.int (iI y2_14)]) (rest := [.ref a0]) ⟨hx, hb, hml, hown, hts⟩ (c_X0_timeOf_q zo l D cy L0 f_5 a0 y2_14 ly2_14 uy2_14 m_a0 o_a0 hg (by omega) (by omega) (by omega) (by omega) _) (cwV 1 hts (gT (inV (mr29 _ (List.mem_of_getElem? (i := 23) rfl)) (mr30 _ (List.mem_of_getElem? (i := 0) rfl)) (mr30 _ (List.mem_of_getElem? (i := 1) rfl)) (mr2 _ (List.mem_of_getElem? (i := 9) rfl)) (mr30 _ (List.mem_of_getElem? (i := 2) rfl)))) rfl rfl rfl (by decide +kernel) ⟨Nat.le_of_ble_eq_true rfl, Nat.le_of_ble_eq_true rfl⟩) (Wd.preV zo hA hZ hw hK m_a0 o_a0 rfl) rfl rfl hl.1 rfl (lv_room (Nat.le_of_ble_eq_true rfl)) dX0_seekAhead_67 ⟨Nat.le_of_ble_eq_true rfl, Nat.le_of_ble_eq_true rfl⟩) (fun x_19 L1 f1 H locs lx_19 ux_19 ex_19 hw => ?_)
          obtain ⟨rfl, rfl, ex_19⟩ := ex_19
          exact J70 x_19 lx_19 ux_19 (by omega) _ _ _ hw (lv_sub hl [0, 1] rfl)
        · refine q_iconst hx hb dX0_seekAhead_61 ?_
          refine lv_goto (tgt := 70) hx hb dX0_seekAhead_62 (by decide) ?_
          exact J70 ((-1)) (by decide) (by decide) (by omega) _ _ _ hw (lv_sub hl [0, 1] rfl)
      refine q_icmp_ge (tgt := 50) hx hb dX0_seekAhead_19 (by decide) ⟨ly3_14, uy3_14⟩ ⟨lx_4, ux_4⟩ (fun c19 => ?_) (fun c19 => ?_)
      · exact J50 (by omega) (by exact lr.out nc hrq (by omega)) _ _ _ hw (lv_sub hl [0, 1, 2] rfl)
      · refine lv_iload_n hx hb dX0_seekAhead_22 rfl (lv_at hl 2 rfl) ?_
        refine q_iconst hx hb dX0_seekAhead_23 ?_
        refine q_icmp_eq (tgt := 50) hx hb dX0_seekAhead_24 (by decide) ⟨ly2_14, uy2_14⟩ ⟨by decide, by decide⟩ (fun c24 => ?_) (fun c24 => ?_)
        · exact J50 (by omega) (by exact lr.out nc hrq (by omega)) _ _ _ hw (lv_sub hl [0, 1, 2] rfl)
        · refine lv_aload_n hx hb dX0_seekAhead_27 rfl (lv_at hl 0 rfl) ?_
          refine lv_iload_n hx hb dX0_seekAhead_28 rfl (lv_at hl 2 rfl) ?_
          refine q_call_i hA hK hw (va_runV (As := [.int (iI y2_14)]) (rest := []) ⟨hx, hb, hml, hown, hts⟩ (c_X0_changeOf_o zo l D cy L0 f0 a0 y2_14 ly2_14 uy2_14 m_a0 o_a0 hg O oc _) (cwV 1 hts (gT (inV (mr26 _ (List.mem_of_getElem? (i := 15) rfl)) (mr26 _ (List.mem_of_getElem? (i := 16) rfl)) (mr26 _ (List.mem_of_getElem? (i := 17) rfl)) (mr2 _ (List.mem_of_getElem? (i := 9) rfl)) (mr26 _ (List.mem_of_getElem? (i := 18) rfl)))) rfl rfl rfl (by decide +kernel) ⟨Nat.le_of_ble_eq_true rfl, Nat.le_of_ble_eq_true rfl⟩) (Wd.preV zo hA hZ hw hK m_a0 o_a0 rfl) rfl rfl hl.1 rfl (lv_room (Nat.le_of_ble_eq_true rfl)) dX0_seekAhead_29 ⟨Nat.le_of_ble_eq_true rfl, Nat.le_of_ble_eq_true rfl⟩) (fun x_20 L1 f1 H locs lx_20 ux_20 ex_20 hw => ?_)
          obtain ⟨rfl, rfl, ex_20⟩ := ex_20
          have h29 := ex_20
          refine q_iconst hx hb dX0_seekAhead_32 ?_
          refine q_icmp_eq (tgt := 50) hx hb dX0_seekAhead_33 (by decide) ⟨lx_20, ux_20⟩ ⟨by decide, by decide⟩ (fun c33 => ?_) (fun c33 => ?_)
          · exact J50 (by omega) (by exact lr.out nc hrq (by omega)) _ _ _ hw (lv_sub hl [0, 1, 2] rfl)
          · refine lv_aload_n hx hb dX0_seekAhead_36 rfl (lv_at hl 0 rfl) ?_
            refine lv_iload_n hx hb dX0_seekAhead_37 rfl (lv_at hl 2 rfl) ?_
            refine q_iconst hx hb dX0_seekAhead_38 ?_
            first | refine q_isub hx hb dX0_seekAhead_39 ⟨by omega, by omega⟩ (fun x_21 lx_21 ux_21 ex_21 => ?_) | refine q_isubw hx hb dX0_seekAhead_39 (fun x_21 lx_21 ux_21 _ => ?_)
            refine q_call_i hA hK hw (va_runV (As := [.int (iI x_21)]) (rest := []) ⟨hx, hb, hml, hown, hts⟩ (c_X0_keyTo_g zo l D cy L0 f0 a0 x_21 lx_21 ux_21 m_a0 o_a0 hg g p0 rb _) (cwV 1 hts (gT (inV (mr31 _ (List.mem_of_getElem? (i := 3) rfl)) (mr31 _ (List.mem_of_getElem? (i := 4) rfl)) (mr31 _ (List.mem_of_getElem? (i := 5) rfl)) (mr2 _ (List.mem_of_getElem? (i := 9) rfl)) (mr31 _ (List.mem_of_getElem? (i := 6) rfl)))) rfl rfl rfl (by decide +kernel) ⟨Nat.le_of_ble_eq_true rfl, Nat.le_of_ble_eq_true rfl⟩) (Wd.preV zo hA hZ hw hK m_a0 o_a0 rfl) rfl rfl hl.1 rfl (lv_room (Nat.le_of_ble_eq_true rfl)) dX0_seekAhead_40 ⟨Nat.le_of_ble_eq_true rfl, Nat.le_of_ble_eq_true rfl⟩) (fun x_22 L1 f1 H locs lx_22 ux_22 ex_22 hw => ?_)
            obtain ⟨rfl, rfl, ex_22⟩ := ex_22
            have f40 := ex_22
            have b40 := f40.kb hrq
            clear ex_22
            refine lv_istore_n (lv' := [(2, .int (iI x_22)), (0, .ref a0), (1, .int (iI x1)), (3, .int (iI y3_14))]) hx hb dX0_seekAhead_43 rfl hl (by decide) rfl (fun ls hl => ?_)
            obtain ⟨x_23, lx_23, ux_23, hx_23, ex_23⟩ := q_inc y3_14 (1)
            try (replace ex_23 : x_23 = y3_14 + (1) := by omega)
            refine lv_iinc (v := iI x_23) (lv' := [(3, .int (iI x_23)), (2, .int (iI x_22)), (0, .ref a0), (1, .int (iI x1))]) hx hb dX0_seekAhead_44 hl (k := 3) rfl hx_23 (by decide) rfl (fun ls hl => ?_)
            refine lv_goto (tgt := 14) hx hb dX0_seekAhead_47 (by decide) ?_
            exact ih14 x_22 lx_22 ux_22 x_23 lx_23 ux_23 (by omega) (by omega) (by first | exact LR.start f8 hrq (by omega) | exact lr.step (by omega) (ch_in h29 (by omega)).2.2.2 f40 (by omega) (by omega) hrq | fail "none") (by omega) _ _ _ hw (lv_sub hl [2, 3, 1, 0] rfl)
  exact J14 ((((2147483647 : Int) - 0).toNat) + 1) x_3 lx_3 ux_3 0 (by decide) (by decide) (by omega) (by omega) (by first | exact LR.start f8 hrq (by omega) | exact lr.step (by omega) (ch_in h29 (by omega)).2.2.2 f40 (by omega) (by omega) hrq | fail "none") (by omega) _ _ _ hw (lv_sub hl [2, 3, 1, 0] rfl)
set_option maxHeartbeats 4000000 in
set_option maxRecDepth 100000 in
theorem c_X0_found_q {Z : Zt} (zo : Zok Z) (l : Launch) (D : va_G) (cy : Cy) (L0 : List Nat) (f0 : Nat → va_E) (a0 : Nat) (x1 : Int) (lx1 : -2147483648 ≤ x1) (ux1 : x1 ≤ 2147483647) (m_a0 : a0 ∈ L0) (o_a0 : Ob f0 a0 0) (hg : GI cy L0 f0) : Ci Z l yX0_found (Cond.code yX0_found cX0_found 2 (some .int) :: TB) ({ frames := 0, cells := 0, slots := 0, locals := 0 } : Room) 0 0 D (tq cy) [.ref a0, .int (iI x1)] L0 f0 (fun (r : Int) (L1 : List Nat) (f1 : Nat → va_E) => L0 = L1 ∧ f0 = f1 ∧ (FD x1 (fI f0 a0 13) (fI f0 a0 14) r)) := by
  refine Ci.enter (cc := cX0_found) (n := 2) rfl (plainFor_of_name (by decide)) (Nat.le_of_ble_eq_true rfl) ?_
  intro p e s m below meth c ls A hx hb hr hts hown hlocks hnm hml hK hA hAe hw hZ hl
  have hown : s.vm.findClass RX0 = some m.cls := hown
  have hl : lv_has ls 2 [(0, .ref a0), (1, .int (iI x1))] := hl
  have hN : ZN s := (zo.2.2.2.2 _ _ _ hZ).2
  refine lv_aload_n hx hb dX0_found_0 rfl (lv_at hl 0 rfl) ?_
  refine q_geti (ci := 0) (C := RX0) (T := TX0) (N := 15) hx hb hts (fun w h => List.mem_cons_of_mem _ (mfX00 w h)) hown hK hw m_a0 o_a0 rfl 14 (by decide) (hts _ (List.mem_cons_of_mem _ (mr29 _ (List.mem_of_getElem? (i := 11) rfl)))) (fun _ h => h) rfl dX0_found_1 (fun x_1 lx_1 ux_1 ex_1 => ?_)
  refine q_iconst hx hb dX0_found_4 ?_
  refine q_icmp_eq (tgt := 17) hx hb dX0_found_5 (by decide) ⟨lx_1, ux_1⟩ ⟨by decide, by decide⟩ (fun c5 => ?_) (fun c5 => ?_)
  · refine q_iconst hx hb dX0_found_17 ?_
    exact q_ret_i hx hb hr hlocks hK hAe hw ⟨by decide, by decide⟩ (Nat.le_of_ble_eq_true rfl) (Nat.le_of_ble_eq_true rfl) dX0_found_18 ⟨rfl, rfl, by (unfold FD; omega)⟩
  · refine lv_iload_n hx hb dX0_found_8 rfl (lv_at hl 1 rfl) ?_
    refine q_if_lt (tgt := 17) hx hb dX0_found_9 (by decide) ⟨lx1, ux1⟩ (fun c9 => ?_) (fun c9 => ?_)
    · refine q_iconst hx hb dX0_found_17 ?_
      exact q_ret_i hx hb hr hlocks hK hAe hw ⟨by decide, by decide⟩ (Nat.le_of_ble_eq_true rfl) (Nat.le_of_ble_eq_true rfl) dX0_found_18 ⟨rfl, rfl, by (unfold FD; omega)⟩
    · refine lv_iload_n hx hb dX0_found_12 rfl (lv_at hl 1 rfl) ?_
      refine q_iconst hx hb dX0_found_13 ?_
      refine q_icmp_le (tgt := 19) hx hb dX0_found_14 (by decide) ⟨lx1, ux1⟩ ⟨by decide, by decide⟩ (fun c14 => ?_) (fun c14 => ?_)
      · refine lv_iload_n hx hb dX0_found_19 rfl (lv_at hl 1 rfl) ?_
        refine q_if_ne (tgt := 30) hx hb dX0_found_20 (by decide) ⟨lx1, ux1⟩ (fun c20 => ?_) (fun c20 => ?_)
        · refine lv_aload_n hx hb dX0_found_30 rfl (lv_at hl 0 rfl) ?_
          refine q_geti (ci := 0) (C := RX0) (T := TX0) (N := 15) hx hb hts (fun w h => List.mem_cons_of_mem _ (mfX00 w h)) hown hK hw m_a0 o_a0 rfl 14 (by decide) (hts _ (List.mem_cons_of_mem _ (mr29 _ (List.mem_of_getElem? (i := 11) rfl)))) (fun _ h => h) rfl dX0_found_31 (fun x_2 lx_2 ux_2 ex_2 => ?_)
          exact q_ret_i hx hb hr hlocks hK hAe hw ⟨lx_2, ux_2⟩ (Nat.le_of_ble_eq_true rfl) (Nat.le_of_ble_eq_true rfl) dX0_found_34 ⟨rfl, rfl, by (unfold FD; omega)⟩
        · refine lv_aload_n hx hb dX0_found_23 rfl (lv_at hl 0 rfl) ?_
          refine q_geti (ci := 0) (C := RX0) (T := TX0) (N := 15) hx hb hts (fun w h => List.mem_cons_of_mem _ (mfX00 w h)) hown hK hw m_a0 o_a0 rfl 13 (by decide) (hts _ (List.mem_cons_of_mem _ (mr29 _ (List.mem_of_getElem? (i := 13) rfl)))) (fun _ h => h) rfl dX0_found_24 (fun x_3 lx_3 ux_3 ex_3 => ?_)
          refine lv_goto (tgt := 34) hx hb dX0_found_27 (by decide) ?_
          exact q_ret_i hx hb hr hlocks hK hAe hw ⟨lx_3, ux_3⟩ (Nat.le_of_ble_eq_true rfl) (Nat.le_of_ble_eq_true rfl) dX0_found_34 ⟨rfl, rfl, by (unfold FD; omega)⟩
      · refine q_iconst hx hb dX0_found_17 ?_
        exact q_ret_i hx hb hr hlocks hK hAe hw ⟨by decide, by decide⟩ (Nat.le_of_ble_eq_true rfl) (Nat.le_of_ble_eq_true rfl) dX0_found_18 ⟨rfl, rfl, by (unfold FD; omega)⟩
set_option maxHeartbeats 4000000 in
set_option maxRecDepth 100000 in
theorem c_X9_ahead_o {Z : Zt} (zo : Zok Z) (l : Launch) (D : va_G) (cy : Cy) (L0 : List Nat) (f0 : Nat → va_E) (a0 : Nat) (x1 : Int) (lx1 : -2147483648 ≤ x1) (ux1 : x1 ≤ 2147483647) (x2 : Int) (lx2 : -2147483648 ≤ x2) (ux2 : x2 ≤ 2147483647) (x3 : Int) (lx3 : -2147483648 ≤ x3) (ux3 : x3 ≤ 2147483647) (m_a0 : a0 ∈ L0) (o_a0 : Ob f0 a0 7) (hg : GI cy L0 f0) (rq : Int → Nat) (g : Int → Int) (mm : Int) (sx : SX f0 a0 rq g mm) (O : Int → Int) (oc : 0 ≤ x1 ∧ x1 < mm → OC f0 (rq x1) O) (hk : 0 ≤ x1 ∧ x1 < mm → OKk g (44 * x1) O) (mb : ∀ i : Int, 0 ≤ i → i < mm → 0 ≤ g (44 * i + 1) ∧ g (44 * i + 1) ≤ 1439) : Ci Z l yX9_ahead (Cond.code yX9_ahead cX9_ahead 5 (some .int) :: TB) ({ frames := 5, cells := 0, slots := 0, locals := 113 } : Room) 0 0 D (tq cy) [.ref a0, .int (iI x1), .int (iI x2), .int (iI x3)] L0 f0 (fun (r : Int) (L1 : List Nat) (f1 : Nat → va_E) => L0 = L1 ∧ GI cy L0 f1 ∧ Eh cy f0 f1 ∧ ((r = -1 ∧ (¬ (0 ≤ x1 ∧ x1 < mm) ∨ x2 < 0 ∨ 52595999 < x2 ∨ x3 < 0 ∨ 1 < x3)) ∨ ((0 ≤ x1 ∧ x1 < mm) ∧ 0 ≤ x2 ∧ x2 ≤ 52595999 ∧ ∃ T K : Int, Sa (Oc g (44 * x1) O) x2 T K ∧ FD x3 T K r))) := by
  refine Ci.enter (cc := cX9_ahead) (n := 5) rfl (plainFor_of_name (by decide)) (Nat.le_of_ble_eq_true rfl) ?_
  intro p e s m below meth c ls A hx hb hr hts hown hlocks hnm hml hK hA hAe hw hZ hl
  have hown : s.vm.findClass RX9 = some m.cls := hown
  have hl : lv_has ls 5 [(0, .ref a0), (1, .int (iI x1)), (2, .int (iI x2)), (3, .int (iI x3))] := hl
  have hN : ZN s := (zo.2.2.2.2 _ _ _ hZ).2
  have hE : Eh cy f0 f0 := Eh.refl cy f0
  refine lv_aload_n hx hb dX9_ahead_0 rfl (lv_at hl 0 rfl) ?_
  obtain ⟨r_1, er_1, m_r_1, o_r_1⟩ := (show ∃ r, fR f0 a0 2 = some r ∧ r ∈ L0 ∧ Ob f0 r 5 from hg.2.1 _ m_a0 7 2 o_a0)
  refine q_getr (ci := 7) (C := RX9) (T := TX9) (N := 4) hx hb hts (fun w h => List.mem_cons_of_mem _ (mfX90 w h)) hown hK hw m_a0 o_a0 rfl 2 (by decide) (hts _ (List.mem_cons_of_mem _ (mr1 _ (List.mem_of_getElem? (i := 20) rfl)))) (fun _ h => h) rfl er_1 dX9_ahead_1 ?_
  have s1 := sx.at er_1
  refine lv_iload_n hx hb dX9_ahead_4 rfl (lv_at hl 1 rfl) ?_
  refine q_call_i hA hK hw (va_runV (As := [.int (iI x1)]) (rest := []) ⟨hx, hb, hml, hown, hts⟩ (c_X7_has_f zo l D cy L0 f0 r_1 x1 lx1 ux1 m_r_1 o_r_1 hg _) (cwV 1 hts (gT (inV (mr22 _ (List.mem_of_getElem? (i := 9) rfl)) (mr22 _ (List.mem_of_getElem? (i := 10) rfl)) (mr22 _ (List.mem_of_getElem? (i := 11) rfl)) (mr1 _ (List.mem_of_getElem? (i := 19) rfl)) (mr22 _ (List.mem_of_getElem? (i := 12) rfl)))) rfl rfl rfl (by decide +kernel) ⟨Nat.le_of_ble_eq_true rfl, Nat.le_of_ble_eq_true rfl⟩) (Wd.preV zo hA hZ hw hK m_r_1 o_r_1 rfl) rfl rfl hl.1 rfl (lv_room (Nat.le_of_ble_eq_true rfl)) dX9_ahead_5 ⟨Nat.le_of_ble_eq_true rfl, Nat.le_of_ble_eq_true rfl⟩) (fun x_2 L1 f1 H locs lx_2 ux_2 ex_2 hw => ?_)
  obtain ⟨rfl, rfl, ex_2⟩ := ex_2
  refine q_if_eq (tgt := 18) hx hb dX9_ahead_8 (by decide) ⟨lx_2, ux_2⟩ (fun c8 => ?_) (fun c8 => ?_)
  · refine q_iconst hx hb dX9_ahead_18 ?_
    exact q_ret_i hx hb hr hlocks hK hAe hw ⟨by decide, by decide⟩ (Nat.le_of_ble_eq_true rfl) (Nat.le_of_ble_eq_true rfl) dX9_ahead_19 (by exact ⟨rfl, hg, hE, Or.inl ⟨rfl, by omega⟩⟩)
  · refine lv_iload_n hx hb dX9_ahead_11 rfl (lv_at hl 2 rfl) ?_
    refine q_call_i hA hK hw (va_runS (As := [.int (iI x2)]) (rest := []) ⟨hx, hb, hml, hown, hts⟩ (c_X9_isTime zo l D cy L0 f0 x2 lx2 ux2 _) (va_cwS 1 hts (gT (inS (mr27 _ (List.mem_of_getElem? (i := 19) rfl)) (mr27 _ (List.mem_of_getElem? (i := 20) rfl)) (mr1 _ (List.mem_of_getElem? (i := 2) rfl)) (mr27 _ (List.mem_of_getElem? (i := 21) rfl)))) rfl rfl rfl (by decide +kernel) ⟨Nat.le_of_ble_eq_true rfl, Nat.le_of_ble_eq_true rfl⟩) (Wd.preS zo hA hZ hw hK) rfl rfl hl.1 rfl (lv_room (Nat.le_of_ble_eq_true rfl)) dX9_ahead_12 ⟨Nat.le_of_ble_eq_true rfl, Nat.le_of_ble_eq_true rfl⟩) (fun x_3 L1 f1 H locs lx_3 ux_3 ex_3 hw => ?_)
    obtain ⟨rfl, rfl, ex_3⟩ := ex_3
    refine q_if_ne (tgt := 20) hx hb dX9_ahead_15 (by decide) ⟨lx_3, ux_3⟩ (fun c15 => ?_) (fun c15 => ?_)
    · refine lv_aload_n hx hb dX9_ahead_20 rfl (lv_at hl 0 rfl) ?_
      refine q_getr (ci := 7) (C := RX9) (T := TX9) (N := 4) hx hb hts (fun w h => List.mem_cons_of_mem _ (mfX90 w h)) hown hK hw m_a0 o_a0 rfl 2 (by decide) (hts _ (List.mem_cons_of_mem _ (mr1 _ (List.mem_of_getElem? (i := 20) rfl)))) (fun _ h => h) rfl er_1 dX9_ahead_21 ?_
      have s1 := sx.at er_1
      refine lv_iload_n hx hb dX9_ahead_24 rfl (lv_at hl 1 rfl) ?_
      refine q_call_r hA hK hw (va_runV (As := [.int (iI x1)]) (rest := []) ⟨hx, hb, hml, hown, hts⟩ (c_X7_at_f zo l D cy L0 f0 r_1 x1 lx1 ux1 m_r_1 o_r_1 hg (by omega) (by omega) _) (cwV 1 hts (gT (inV (mr24 _ (List.mem_of_getElem? (i := 8) rfl)) (mr24 _ (List.mem_of_getElem? (i := 9) rfl)) (mr24 _ (List.mem_of_getElem? (i := 10) rfl)) (mr1 _ (List.mem_of_getElem? (i := 19) rfl)) (mr24 _ (List.mem_of_getElem? (i := 11) rfl)))) rfl rfl rfl (by decide +kernel) ⟨Nat.le_of_ble_eq_true rfl, Nat.le_of_ble_eq_true rfl⟩) (Wd.preV zo hA hZ hw hK m_r_1 o_r_1 rfl) rfl rfl hl.1 rfl (lv_room (Nat.le_of_ble_eq_true rfl)) dX9_ahead_25 ⟨Nat.le_of_ble_eq_true rfl, Nat.le_of_ble_eq_true rfl⟩) (fun x_4 L1 f1 H locs ex_4 hw => ?_)
      obtain ⟨rfl, rfl, ex_4⟩ := ex_4
      obtain ⟨m_x_4, o_x_4, ex_4⟩ := ex_4
      have gx := s1.1.row ex_4 (by omega) (by omega)
      have rb := s1.1.rb ex_4 (by omega) (by omega) (by omega)
      refine lv_astore (lv' := [(4, .ref x_4), (0, .ref a0), (1, .int (iI x1)), (2, .int (iI x2)), (3, .int (iI x3))]) hx hb dX9_ahead_28 hl (by decide) rfl (fun ls hl => ?_)
      refine lv_aload hx hb dX9_ahead_30 (lv_at hl 0 rfl) ?_
      refine lv_iload_n hx hb dX9_ahead_32 rfl (lv_at hl 3 rfl) ?_
      refine q_call_i hA hK hw (va_runV (As := [.int (iI x2)]) (rest := []) ⟨hx, hb, hml, hown, hts⟩ (c_X0_seekAhead_o zo l D cy L0 f0 x_4 x2 lx2 ux2 m_x_4 o_x_4 hg g (44 * x1) rb O (by rw [gx]; exact oc ⟨by omega, by omega⟩) (hk ⟨by omega, by omega⟩) (mb _ (by omega) (by omega)).1 (mb _ (by omega) (by omega)).2 (by omega) (by omega) _) (cwV 1 hts (gT (inV (mr30 _ (List.mem_of_getElem? (i := 19) rfl)) (mr30 _ (List.mem_of_getElem? (i := 20) rfl)) (mr30 _ (List.mem_of_getElem? (i := 21) rfl)) (mr2 _ (List.mem_of_getElem? (i := 9) rfl)) (mr30 _ (List.mem_of_getElem? (i := 22) rfl)))) rfl rfl rfl (by decide +kernel) ⟨Nat.le_of_ble_eq_true rfl, Nat.le_of_ble_eq_true rfl⟩) (Wd.preV zo hA hZ hw hK m_x_4 o_x_4 rfl) rfl rfl hl.1 rfl (lv_room (Nat.le_of_ble_eq_true rfl)) dX9_ahead_33 ⟨Nat.le_of_ble_eq_true rfl, Nat.le_of_ble_eq_true rfl⟩) (fun x_5 L1 f_6 H locs lx_5 ux_5 ex_5 hw => ?_)
      obtain ⟨rfl, hg, hX, ex_5⟩ := ex_5
      have hE := hE.trans hX
      have o_x_4 := hX.1.1.1 _ _ o_x_4
      have o_a0 := hX.1.1.1 _ _ o_a0
      have h33 := ex_5.1
      refine lv_pop hx hb dX9_ahead_36 rfl ?_
      refine lv_aload hx hb dX9_ahead_37 (lv_at hl 0 rfl) ?_
      refine lv_iload_n hx hb dX9_ahead_39 rfl (lv_at hl 4 rfl) ?_
      refine q_call_i hA hK hw (va_runV (As := [.int (iI x3)]) (rest := []) ⟨hx, hb, hml, hown, hts⟩ (c_X0_found_q zo l D cy L0 f_6 x_4 x3 lx3 ux3 m_x_4 o_x_4 hg _) (cwV 1 hts (gT (inV (mr30 _ (List.mem_of_getElem? (i := 3) rfl)) (mr30 _ (List.mem_of_getElem? (i := 4) rfl)) (mr30 _ (List.mem_of_getElem? (i := 5) rfl)) (mr2 _ (List.mem_of_getElem? (i := 9) rfl)) (mr30 _ (List.mem_of_getElem? (i := 6) rfl)))) rfl rfl rfl (by decide +kernel) ⟨Nat.le_of_ble_eq_true rfl, Nat.le_of_ble_eq_true rfl⟩) (Wd.preV zo hA hZ hw hK m_x_4 o_x_4 rfl) rfl rfl hl.1 rfl (lv_room (Nat.le_of_ble_eq_true rfl)) dX9_ahead_40 ⟨Nat.le_of_ble_eq_true rfl, Nat.le_of_ble_eq_true rfl⟩) (fun x_7 L1 f1 H locs lx_7 ux_7 ex_7 hw => ?_)
      obtain ⟨rfl, rfl, ex_7⟩ := ex_7
      exact q_ret_i hx hb hr hlocks hK hAe hw ⟨lx_7, ux_7⟩ (Nat.le_of_ble_eq_true rfl) (Nat.le_of_ble_eq_true rfl) dX9_ahead_43 (by exact ⟨rfl, hg, hE, Or.inr ⟨⟨by omega, by omega⟩, by omega, by omega, _, _, h33, ex_7⟩⟩)
    · refine q_iconst hx hb dX9_ahead_18 ?_
      exact q_ret_i hx hb hr hlocks hK hAe hw ⟨by decide, by decide⟩ (Nat.le_of_ble_eq_true rfl) (Nat.le_of_ble_eq_true rfl) dX9_ahead_19 (by exact ⟨rfl, hg, hE, Or.inl ⟨rfl, by omega⟩⟩)