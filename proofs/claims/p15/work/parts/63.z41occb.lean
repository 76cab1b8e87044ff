/-! ===== rows of the machine, and forms that the walks use ===== -/
section QDT
variable {p : Program} {l : Launch} {e : Env} {R : Room} {s : State} {m : MethodId} {args : Array Value} {below : List Frame} {meth : Method} {c : Code} {H : Heap} {locs : List Loc} {cells slots : Nat} {Q : State → Prop}
variable {cc : ByteArray} {pc : Nat} {ls : Array Slot} {rest : List Value}
theorem q_idivt (hx : p.tables.exec = Jvm.exec) (hb : c.code = cc) {x y : Int} (d : decode cc pc = .ok (.idiv, 1)) (rx : rg x) (ry : rg y) (h1 : 0 < y) (k : ∀ z : Int, -2147483648 ≤ z → z ≤ 2147483647 → ((0 ≤ x ∧ z = x / y) ∨ (x < 0 ∧ z = -((-x) / y))) → W p l e R s m args below meth c H locs cells slots Q (F0 m (pc + 1) ls (.int (iI z) :: rest))) : W p l e R s m args below meth c H locs cells slots Q (F0 m pc ls (.int (iI y) :: .int (iI x) :: rest)) := by
  refine lv_idiv hx hb d (q_ne0 ry (by omega)) ?_
  rw [iI_div rx ry (by omega)]
  by_cases h0 : 0 ≤ x
  · obtain ⟨e1, e2, e3⟩ := tdiv_pos h0 h1
    rw [e1]
    exact k _ (by have := rx.1; omega) (by have := rx.2; omega) (Or.inl ⟨h0, rfl⟩)
  · have e1 : x.tdiv y = -((-x).tdiv y) := by rw [Int.neg_tdiv]; omega
    obtain ⟨e2, e3, e4⟩ := tdiv_pos (x := -x) (by omega) h1
    rw [e1, e2]
    exact k _ (by have := rx.1; omega) (by have := rx.2; omega) (Or.inr ⟨by omega, rfl⟩)
end QDT
theorem xor_neg {x y : Int} (rx : rg x) (ry : rg y) (hy : 0 ≤ y) : (iI x ^^^ iI y).toInt < 0 ↔ x < 0 := by
  have e : (iI x ^^^ iI y).toInt = ((iI x).toBitVec ^^^ (iI y).toBitVec).toInt := rfl
  have ex : (iI x).toBitVec.toInt = x := iI_toInt rx
  have ey : (iI y).toBitVec.toInt = y := iI_toInt ry
  have m := BitVec.msb_xor (x := (iI x).toBitVec) (y := (iI y).toBitVec)
  rw [BitVec.msb_eq_toInt, BitVec.msb_eq_toInt, BitVec.msb_eq_toInt, ex, ey, decide_eq_false (show ¬ y < 0 by omega), Bool.xor_false] at m
  rw [e]
  exact decide_eq_decide.mp m
theorem fdiv_ret {x q s r : Int} (hq : (0 ≤ x ∧ q = x / 1440) ∨ (x < 0 ∧ q = -((-x) / 1440))) (hs : s < 0 ↔ x < 0) (hr : (0 ≤ s ∧ r = q) ∨ (s < 0 ∧ q * 1440 = x ∧ r = q) ∨ (s < 0 ∧ q * 1440 ≠ x ∧ r = q - 1)) : r = x / 1440 := by omega
/-! the search from a time on, before what is moved -/
def LSx (K : Int → Prop) (O : Int → Int) (M u j r i : Int) : Prop := ∃ a : Int, (∀ d : Int, K d → (a ≤ d ↔ ¬ Lx (1440 * d + M) d u j)) ∧ LQ K O a r i
def RSx (K : Int → Prop) (O : Int → Int) (M u j r : Int) : Prop := ∃ a : Int, (∀ d : Int, K d → (a ≤ d ↔ ¬ Lx (1440 * d + M) d u j)) ∧ RZ K O a r
theorem LSx.one {K : Int → Prop} {O : Int → Int} {M u j a r i : Int} (a1 : u ≤ 1440 * a + M) (a2 : 1440 * (a - 1) + M < u) (f : Fst K a r) (hr : ∀ d : Int, K d → 0 ≤ d ∧ d ≤ 36524) (c : r = -1 ∨ j ≤ r ∨ 1440 * r + M ≠ u) (hi : i = 0) : LSx K O M u j r i :=
  ⟨a, (sk_from a1 a2 f hr).2 c, LQ.start f hr hi⟩
theorem LSx.two {K : Int → Prop} {O : Int → Int} {M u j a r b r2 i : Int} (a1 : u ≤ 1440 * a + M) (a2 : 1440 * (a - 1) + M < u) (f : Fst K a r) (hr : ∀ d : Int, K d → 0 ≤ d ∧ d ≤ 36524) (c : r ≠ -1 ∧ r < j ∧ 1440 * r + M = u) (f2 : Fst K b r2) (eb : b = r + 1) (hi : i = 0) : LSx K O M u j r2 i := by
  subst eb
  exact ⟨r + 1, (sk_from a1 a2 f hr).1 c, LQ.start f2 hr hi⟩
theorem LSx.step {K : Int → Prop} {O : Int → Int} {M u j r r' i i' b : Int} (h : LSx K O M u j r i) (n : r ≠ -1) (o : O r ≠ -2) (f : Fst K b r') (eb : b = r + 1) (ei : i' = i + 1) (hr : ∀ d : Int, K d → 0 ≤ d ∧ d ≤ 36524) : LSx K O M u j r' i' := by
  obtain ⟨a, h1, h2⟩ := h
  exact ⟨a, h1, h2.step n o f eb ei hr⟩
theorem LSx.to {K : Int → Prop} {O : Int → Int} {M u j r i i' : Int} (h : LSx K O M u j r i) (e : i' = i) : LSx K O M u j r i' := by rw [e]; exact h
theorem LSx.out {K : Int → Prop} {O : Int → Int} {M u j r i n : Int} (h : LSx K O M u j r i) (hn : n = cn (fun k => O k ≠ -2) 0 36525) (hr : ∀ d : Int, K d → 0 ≤ d ∧ d ≤ 36524) (c : r = -1 ∨ n ≤ i ∨ O r = -2) : RSx K O M u j r := by
  obtain ⟨a, h1, h2⟩ := h
  exact ⟨a, h1, h2.out hn hr c⟩
theorem RSx.sk {K : Int → Prop} {O : Int → Int} {M u j r T : Int} (h : RSx K O M u j r) (hr : ∀ d : Int, K d → 0 ≤ d ∧ d ≤ 36524) (ht : (T = 2147483647 ∧ r = -1) ∨ (T = 1440 * r + M ∧ r ≠ -1)) : Sk (Q0 K O M) u j T r := by
  obtain ⟨a, h1, h2⟩ := h
  exact h2.sk h1 hr (by omega)
theorem Fst.kb {K : Int → Prop} {a r : Int} (f : Fst K a r) (hr : ∀ d : Int, K d → 0 ≤ d ∧ d ≤ 36524) : r = -1 ∨ (0 ≤ r ∧ r ≤ 36524) := by
  rcases f with h | h
  · exact Or.inr (hr _ h.2.2.1)
  · exact Or.inl h.1
theorem Lst.kb {K : Int → Prop} {a r : Int} (f : Lst K a r) (hr : ∀ d : Int, K d → 0 ≤ d ∧ d ≤ 36524) : r = -1 ∨ (0 ≤ r ∧ r ≤ 36524) := by
  rcases f with h | h
  · exact Or.inr (hr _ h.2.2.1)
  · exact Or.inl h.1
theorem LR.to {K : Int → Prop} {O : Int → Int} {b r i i' : Int} (h : LR K O b r i) (e : i' = i) : LR K O b r i' := by rw [e]; exact h
theorem Sk.to {Q : Int → Int → Prop} {A B : Int → Int} {u j T K i i' : Int} (h : Sk (PQ Q A B i) u j T K) (e : i' = i) : Sk (PQ Q A B i') u j T K := by rw [e]; exact h
theorem Sa.to {Q : Int → Int → Prop} {A B : Int → Int} {u T K i i' : Int} (h : Sa (PQ Q A B i) u T K) (e : i' = i) : Sa (PQ Q A B i') u T K := by rw [e]; exact h
theorem Sk.oc {g : Int → Int} {p n i u j T K : Int} {O A B : Int → Int} (h : Sk (PQ (Q0 (KG g p) O (g (p + 1))) A B i) u j T K) (o : OdR B A n O) (e : i = n) : Sk (Oc g p O) u j T K := by
  rw [e] at h
  exact h.cg (pq_oc o)
theorem Sa.oc {g : Int → Int} {p n i u T K : Int} {O A B : Int → Int} (h : Sa (PQ (Q0 (KG g p) O (g (p + 1))) A B i) u T K) (o : OdR B A n O) (e : i = n) : Sa (Oc g p O) u T K := by
  rw [e] at h
  exact h.cg (pq_oc o)
/-! how many, by the places of the odds -/
def NBI (K : Int → Prop) (A B : Int → Int) (a b u v i j c : Int) : Prop := c = cn K a (b + 1) - cn (fun l => a ≤ B l ∧ B l ≤ b) 0 i + cn (fun l => A l ≠ -1 ∧ u ≤ A l ∧ A l ≤ v) 0 j
theorem NBI.start {K : Int → Prop} {A B : Int → Int} {a b u v i j c : Int} (h : c = cn K a (b + 1)) (hi : i ≤ 0) (hj : j ≤ 0) : NBI K A B a b u v i j c := by
  unfold NBI
  rw [cn_le hi, cn_le hj]
  omega
theorem NBI.i {K : Int → Prop} {A B : Int → Int} {a b u v i i' j c c' x : Int} (h : NBI K A B a b u v i j c) (i0 : 0 ≤ i) (ei : i' = i + 1) (ex : x = B i) (hz : (a ≤ x ∧ x ≤ b ∧ c' = c - 1) ∨ ((x < a ∨ b < x) ∧ c' = c)) : NBI K A B a b u v i' j c' := by
  subst ei
  subst ex
  unfold NBI at h ⊢
  rcases hz with ⟨z1, z2, z3⟩ | ⟨z1, z2⟩
  · rw [cn_yes (p := fun l => a ≤ B l ∧ B l ≤ b) i0 ⟨z1, z2⟩]; omega
  · rw [cn_no (p := fun l => a ≤ B l ∧ B l ≤ b) i0 (fun w => by have w1 := w.1; have w2 := w.2; omega)]; omega
theorem NBI.j {K : Int → Prop} {A B : Int → Int} {a b u v i j j' c c' x : Int} (h : NBI K A B a b u v i j c) (j0 : 0 ≤ j) (ej : j' = j + 1) (ex : x = A j) (hz : (x ≠ -1 ∧ u ≤ x ∧ x ≤ v ∧ c' = c + 1) ∨ ((x = -1 ∨ x < u ∨ v < x) ∧ c' = c)) : NBI K A B a b u v i j' c' := by
  subst ej
  subst ex
  unfold NBI at h ⊢
  rcases hz with ⟨z1, z2, z3, z4⟩ | ⟨z1, z2⟩
  · rw [cn_yes (p := fun l => A l ≠ -1 ∧ u ≤ A l ∧ A l ≤ v) j0 ⟨z1, z2, z3⟩]; omega
  · rw [cn_no (p := fun l => A l ≠ -1 ∧ u ≤ A l ∧ A l ≤ v) j0 (fun w => by have w1 := w.1; have w2 := w.2; omega)]; omega
theorem NBI.to {K : Int → Prop} {A B : Int → Int} {a b u v i i' j j' c : Int} (h : NBI K A B a b u v i j c) (e1 : i' = i) (e2 : j' = j) : NBI K A B a b u v i' j' c := by rw [e1, e2]; exact h
theorem NBI.b {K : Int → Prop} {A B : Int → Int} {a b u v i j c : Int} (h : NBI K A B a b u v i j c) (i0 : 0 ≤ i) (j0 : 0 ≤ j) : -i ≤ c ∧ c ≤ max 0 (b + 1 - a) + j := by
  unfold NBI at h
  have c1 := cn_pos (p := K) (a := a) (b := b + 1)
  have c2 := cn_pos (p := fun l => a ≤ B l ∧ B l ≤ b) (a := 0) (b := i)
  have c3 := cn_pos (p := fun l => A l ≠ -1 ∧ u ≤ A l ∧ A l ≤ v) (a := 0) (b := j)
  omega
theorem NBI.nb {g : Int → Int} {p n a b u v i j c : Int} {O A B : Int → Int} (h : NBI (KG g p) A B a b u v i j c) (o : OdR B A n O) (n0 : 0 ≤ n) (e1 : i = n) (e2 : j = n) (hk : OKk g p O) (hr : ∀ d : Int, KG g p d → 0 ≤ d ∧ d ≤ 36524) (a1 : u ≤ 1440 * a + g (p + 1)) (a2 : 1440 * (a - 1) + g (p + 1) < u) (b1 : 1440 * b + g (p + 1) ≤ v) (b2 : v < 1440 * (b + 1) + g (p + 1)) : c = NB g p O u v := by
  rw [e1, e2] at h
  exact nb_fin o n0 hk hr a1 a2 b1 b2 h
theorem nb_arg {g : Int → Int} {p a a' b b' r : Int} {O : Int → Int} (h : r = NB g p O a b) (ea : a = a') (eb : b = b') : r = NB g p O a' b' := by rw [← ea, ← eb]; exact h
theorem LL.pq {Q : Int → Int → Prop} {A B tm ks : Int → Int} {i i' n n' : Int} (h : LL (PQ Q A B i) tm ks n) (ei : i' = i) (en : n' = n) : LL (PQ Q A B i') tm ks n' := by rw [ei, en]; exact h
theorem LL.oc {g : Int → Int} {p n m i : Int} {O A B tm ks : Int → Int} (h : LL (PQ (Q0 (KG g p) O (g (p + 1))) A B i) tm ks m) (o : OdR B A n O) (e : i = n) : LL (Oc g p O) tm ks m := by
  rw [e] at h
  exact h.cg (pq_oc o)
theorem kg_rg {g : Int → Int} {p : Int} (h8 : g (p + 8) ≤ 36524) (h10 : 0 ≤ g (p + 10)) : ∀ d : Int, KG g p d → 0 ≤ d ∧ d ≤ 36524 := fun d z => by
  have z1 := z.at
  have z2 : HI (g (p + 8)) ≤ 36524 := by unfold HI; split <;> omega
  omega
set_option maxHeartbeats 4000000 in
set_option maxRecDepth 100000 in
theorem c_J9_floorDiv_7cf53_q {Z : Zt} (zo : Zok Z) (l : Launch) (D : va_G) (cy : Cy) (L0 : List Nat) (f0 : Nat → va_E) (x0 : Int) (lx0 : -2147483648 ≤ x0) (ux0 : x0 ≤ 2147483647) (x1 : Int) (lx1 : -2147483648 ≤ x1) (ux1 : x1 ≤ 2147483647) (h1 : x1 = 1440) (h2 : -1000000000 ≤ x0) (h3 : x0 ≤ 1000000000) : Ci Z l yJ9_floorDiv_7cf53 (Cond.code yJ9_floorDiv_7cf53 cJ9_floorDiv_7cf53 3 (some .int) :: TB) ({ frames := 0, cells := 0, slots := 0, locals := 0 } : Room) 0 0 D (tq cy) [.int (iI x0), .int (iI x1)] L0 f0 (fun (r : Int) (L1 : List Nat) (f1 : Nat → va_E) => L0 = L1 ∧ f0 = f1 ∧ (r = x0 / 1440)) := by
  refine Ci.enter (cc := cJ9_floorDiv_7cf53) (n := 3) rfl (by decide +kernel) (Nat.le_of_ble_eq_true rfl) ?_
  intro p e s m below meth c ls A hx hb hr hts hown hlocks hnm hml hK hA hAe hw hZ hl
  have hown : s.vm.findClass RJ9 = some m.cls := hown
  have hl : lv_has ls 3 [(0, .int (iI x0)), (1, .int (iI x1))] := hl
  have hN : ZN s := (zo.2.2.2.2 _ _ _ hZ).2
  refine lv_iload_n hx hb dJ9_floorDiv_7cf53_0 rfl (lv_at hl 0 rfl) ?_
  refine lv_iload_n hx hb dJ9_floorDiv_7cf53_1 rfl (lv_at hl 1 rfl) ?_
  refine q_idivt hx hb dJ9_floorDiv_7cf53_2 ⟨lx0, ux0⟩ ⟨lx1, ux1⟩ (by omega) (fun x_1 lx_1 ux_1 ex_1 => ?_)
  rw [h1] at ex_1
  have d2 := ex_1
  refine lv_istore_n (lv' := [(2, .int (iI x_1)), (0, .int (iI x0)), (1, .int (iI x1))]) hx hb dJ9_floorDiv_7cf53_3 rfl hl (by decide) rfl (fun ls hl => ?_)
  refine lv_iload_n hx hb dJ9_floorDiv_7cf53_4 rfl (lv_at hl 1 rfl) ?_
  refine lv_iload_n hx hb dJ9_floorDiv_7cf53_5 rfl (lv_at hl 2 rfl) ?_
  refine lv_ixor hx hb dJ9_floorDiv_7cf53_6 ?_
  refine q_num (fun x_2 lx_2 ux_2 ex_2 => ?_)
  have n6 : x_2 < 0 ↔ x0 < 0 := by rw [ex_2]; exact xor_neg ⟨lx0, ux0⟩ ⟨lx1, ux1⟩ (by omega)
  refine q_if_ge (tgt := 21) hx hb dJ9_floorDiv_7cf53_7 (by decide) ⟨lx_2, ux_2⟩ (fun c7 => ?_) (fun c7 => ?_)
  · refine lv_iload_n hx hb dJ9_floorDiv_7cf53_21 rfl (lv_at hl 0 rfl) ?_
    exact q_ret_i hx hb hr hlocks hK hAe hw ⟨lx_1, ux_1⟩ (Nat.le_of_ble_eq_true rfl) (Nat.le_of_ble_eq_true rfl) dJ9_floorDiv_7cf53_22 ⟨rfl, rfl, by exact fdiv_ret d2 n6 (by omega)⟩
  · refine lv_iload_n hx hb dJ9_floorDiv_7cf53_10 rfl (lv_at hl 0 rfl) ?_
    refine lv_iload_n hx hb dJ9_floorDiv_7cf53_11 rfl (lv_at hl 2 rfl) ?_
    refine lv_imul hx hb dJ9_floorDiv_7cf53_12 ?_
    refine q_num (fun x_3 lx_3 ux_3 ex_3 => ?_)
    have m12 : x_3 = x_1 * 1440 := by rw [ex_3, h1, iI_mul, iI_toInt ⟨by omega, by omega⟩]
    refine lv_iload_n hx hb dJ9_floorDiv_7cf53_13 rfl (lv_at hl 1 rfl) ?_
    refine q_icmp_eq (tgt := 21) hx hb dJ9_floorDiv_7cf53_14 (by decide) ⟨lx_3, ux_3⟩ ⟨lx0, ux0⟩ (fun c14 => ?_) (fun c14 => ?_)
    · refine lv_iload_n hx hb dJ9_floorDiv_7cf53_21 rfl (lv_at hl 0 rfl) ?_
      exact q_ret_i hx hb hr hlocks hK hAe hw ⟨lx_1, ux_1⟩ (Nat.le_of_ble_eq_true rfl) (Nat.le_of_ble_eq_true rfl) dJ9_floorDiv_7cf53_22 ⟨rfl, rfl, by exact fdiv_ret d2 n6 (by omega)⟩
    · refine lv_iload_n hx hb dJ9_floorDiv_7cf53_17 rfl (lv_at hl 0 rfl) ?_
      refine q_iconst hx hb dJ9_floorDiv_7cf53_18 ?_
      refine lv_isub hx hb dJ9_floorDiv_7cf53_19 ?_
      refine q_num (fun x_4 lx_4 ux_4 ex_4 => ?_)
      have m19 : x_4 = x_1 - 1 := by rw [ex_4, iI_sub, iI_toInt ⟨by omega, by omega⟩]
      exact q_ret_i hx hb hr hlocks hK hAe hw ⟨lx_4, ux_4⟩ (Nat.le_of_ble_eq_true rfl) (Nat.le_of_ble_eq_true rfl) dJ9_floorDiv_7cf53_20 ⟨rfl, rfl, by exact fdiv_ret d2 n6 (by omega)⟩
set_option maxHeartbeats 4000000 in
set_option maxRecDepth 100000 in
theorem c_X0_ruledFrom_q {Z : Zt} (zo : Zok Z) (l : Launch) (D : va_G) (cy : Cy) (L0 : List Nat) (f0 : Nat → va_E) (a0 : Nat) (x1 : Int) (lx1 : -2147483648 ≤ x1) (ux1 : x1 ≤ 2147483647) (m_a0 : a0 ∈ L0) (o_a0 : Ob f0 a0 0) (hg : GI cy L0 f0) (m0 : 0 ≤ fI f0 a0 1) (m1 : fI f0 a0 1 ≤ 1439) (u0 : -100000000 ≤ x1) (u1 : x1 ≤ 100000000) : Ci Z l yX0_ruledFrom (Cond.code yX0_ruledFrom cX0_ruledFrom 2 (some .int) :: TB) ({ frames := 1, cells := 0, slots := 0, locals := 22 } : Room) 0 0 D (tq cy) [.ref a0, .int (iI x1)] L0 f0 (fun (r : Int) (L1 : List Nat) (f1 : Nat → va_E) => L0 = L1 ∧ f0 = f1 ∧ (x1 ≤ 1440 * r + fI f0 a0 1 ∧ 1440 * (r - 1) + fI f0 a0 1 < x1)) := by
  refine Ci.enter (cc := cX0_ruledFrom) (n := 2) rfl (plainFor_of_name (by decide)) (Nat.le_of_ble_eq_true rfl) ?_
  intro p e s m below meth c ls A hx hb hr hts hown hlocks hnm hml hK hA hAe hw hZ hl
  have hown : s.vm.findClass RX0 = some m.cls := hown
  have hl : lv_has ls 2 [(0, .ref a0), (1, .int (iI x1))] := hl
  have hN : ZN s := (zo.2.2.2.2 _ _ _ hZ).2
  refine lv_iload_n hx hb dX0_ruledFrom_0 rfl (lv_at hl 1 rfl) ?_
  refine lv_aload_n hx hb dX0_ruledFrom_1 rfl (lv_at hl 0 rfl) ?_
  refine q_geti (ci := 0) (C := RX0) (T := TX0) (N := 15) hx hb hts (fun w h => List.mem_cons_of_mem _ (mfX00 w h)) hown hK hw m_a0 o_a0 rfl 1 (by decide) (hts _ (List.mem_cons_of_mem _ (mr29 _ (List.mem_of_getElem? (i := 18) rfl)))) (fun _ h => h) rfl dX0_ruledFrom_2 (fun x_1 lx_1 ux_1 ex_1 => ?_)
  first | refine q_isub hx hb dX0_ruledFrom_5 ⟨by omega, by omega⟩ (fun x_2 lx_2 ux_2 ex_2 => ?_) | refine q_isubw hx hb dX0_ruledFrom_5 (fun x_2 lx_2 ux_2 _ => ?_)
  refine q_sipush hx hb dX0_ruledFrom_6 rfl ?_
  first | refine q_iadd hx hb dX0_ruledFrom_9 ⟨by omega, by omega⟩ (fun x_3 lx_3 ux_3 ex_3 => ?_) | refine q_iaddw hx hb dX0_ruledFrom_9 (fun x_3 lx_3 ux_3 _ => ?_)
  refine q_iconst hx hb dX0_ruledFrom_10 ?_
  first | refine q_isub hx hb dX0_ruledFrom_11 ⟨by omega, by omega⟩ (fun x_4 lx_4 ux_4 ex_4 => ?_) | refine q_isubw hx hb dX0_ruledFrom_11 (fun x_4 lx_4 ux_4 _ => ?_)
  refine q_sipush hx hb dX0_ruledFrom_12 rfl ?_
  refine q_call_i hA hK hw (va_runS (As := [.int (iI x_4), .int (iI 1440)]) (rest := []) ⟨hx, hb, hml, hown, hts⟩ (c_J9_floorDiv_7cf53_q zo l D cy L0 f0 x_4 lx_4 ux_4 1440 (by decide) (by decide) (by omega) (by omega) (by omega) _) (va_cwS 2 hts (gT (inS (mr29 _ (List.mem_of_getElem? (i := 19) rfl)) (mr29 _ (List.mem_of_getElem? (i := 20) rfl)) (mr29 _ (List.mem_of_getElem? (i := 21) rfl)) (mr29 _ (List.mem_of_getElem? (i := 22) rfl)))) rfl rfl rfl (by decide +kernel) ⟨Nat.le_of_ble_eq_true rfl, Nat.le_of_ble_eq_true rfl⟩) (Wd.preS zo hA hZ hw hK) rfl rfl hl.1 rfl (lv_room (Nat.le_of_ble_eq_true rfl)) dX0_ruledFrom_15 ⟨Nat.le_of_ble_eq_true rfl, Nat.le_of_ble_eq_true rfl⟩) (fun x_5 L1 f1 H locs lx_5 ux_5 ex_5 hw => ?_)
  obtain ⟨rfl, rfl, ex_5⟩ := ex_5
  exact q_ret_i hx hb hr hlocks hK hAe hw ⟨lx_5, ux_5⟩ (Nat.le_of_ble_eq_true rfl) (Nat.le_of_ble_eq_true rfl) dX0_ruledFrom_18 ⟨rfl, rfl, by omega⟩
set_option maxHeartbeats 4000000 in
set_option maxRecDepth 100000 in
theorem c_X0_ruledTo_q {Z : Zt} (zo : Zok Z) (l : Launch) (D : va_G) (cy : Cy) (L0 : List Nat) (f0 : Nat → va_E) (a0 : Nat) (x1 : Int) (lx1 : -2147483648 ≤ x1) (ux1 : x1 ≤ 2147483647) (m_a0 : a0 ∈ L0) (o_a0 : Ob f0 a0 0) (hg : GI cy L0 f0) (m0 : 0 ≤ fI f0 a0 1) (m1 : fI f0 a0 1 ≤ 1439) (u0 : -100000000 ≤ x1) (u1 : x1 ≤ 100000000) : Ci Z l yX0_ruledTo (Cond.code yX0_ruledTo cX0_ruledTo 2 (some .int) :: TB) ({ frames := 1, cells := 0, slots := 0, locals := 22 } : Room) 0 0 D (tq cy) [.ref a0, .int (iI x1)] L0 f0 (fun (r : Int) (L1 : List Nat) (f1 : Nat → va_E) => L0 = L1 ∧ f0 = f1 ∧ (1440 * r + fI f0 a0 1 ≤ x1 ∧ x1 < 1440 * (r + 1) + fI f0 a0 1)) := by
  refine Ci.enter (cc := cX0_ruledTo) (n := 2) rfl (plainFor_of_name (by decide)) (Nat.le_of_ble_eq_true rfl) ?_
  intro p e s m below meth c ls A hx hb hr hts hown hlocks hnm hml hK hA hAe hw hZ hl
  have hown : s.vm.findClass RX0 = some m.cls := hown
  have hl : lv_has ls 2 [(0, .ref a0), (1, .int (iI x1))] := hl
  have hN : ZN s := (zo.2.2.2.2 _ _ _ hZ).2
  refine lv_iload_n hx hb dX0_ruledTo_0 rfl (lv_at hl 1 rfl) ?_
  refine lv_aload_n hx hb dX0_ruledTo_1 rfl (lv_at hl 0 rfl) ?_
  refine q_geti (ci := 0) (C := RX0) (T := TX0) (N := 15) hx hb hts (fun w h => List.mem_cons_of_mem _ (mfX00 w h)) hown hK hw m_a0 o_a0 rfl 1 (by decide) (hts _ (List.mem_cons_of_mem _ (mr29 _ (List.mem_of_getElem? (i := 18) rfl)))) (fun _ h => h) rfl dX0_ruledTo_2 (fun x_1 lx_1 ux_1 ex_1 => ?_)
  first | refine q_isub hx hb dX0_ruledTo_5 ⟨by omega, by omega⟩ (fun x_2 lx_2 ux_2 ex_2 => ?_) | refine q_isubw hx hb dX0_ruledTo_5 (fun x_2 lx_2 ux_2 _ => ?_)
  refine q_sipush hx hb dX0_ruledTo_6 rfl ?_
  refine q_call_i hA hK hw (va_runS (As := [.int (iI x_2), .int (iI 1440)]) (rest := []) ⟨hx, hb, hml, hown, hts⟩ (c_J9_floorDiv_7cf53_q zo l D cy L0 f0 x_2 lx_2 ux_2 1440 (by decide) (by decide) (by omega) (by omega) (by omega) _) (va_cwS 2 hts (gT (inS (mr29 _ (List.mem_of_getElem? (i := 19) rfl)) (mr29 _ (List.mem_of_getElem? (i := 20) rfl)) (mr29 _ (List.mem_of_getElem? (i := 21) rfl)) (mr29 _ (List.mem_of_getElem? (i := 22) rfl)))) rfl rfl rfl (by decide +kernel) ⟨Nat.le_of_ble_eq_true rfl, Nat.le_of_ble_eq_true rfl⟩) (Wd.preS zo hA hZ hw hK) rfl rfl hl.1 rfl (lv_room (Nat.le_of_ble_eq_true rfl)) dX0_ruledTo_9 ⟨Nat.le_of_ble_eq_true rfl, Nat.le_of_ble_eq_true rfl⟩) (fun x_3 L1 f1 H locs lx_3 ux_3 ex_3 hw => ?_)
  obtain ⟨rfl, rfl, ex_3⟩ := ex_3
  exact q_ret_i hx hb hr hlocks hK hAe hw ⟨lx_3, ux_3⟩ (Nat.le_of_ble_eq_true rfl) (Nat.le_of_ble_eq_true rfl) dX0_ruledTo_12 ⟨rfl, rfl, by omega⟩
set_option maxHeartbeats 4000000 in
set_option maxRecDepth 100000 in
theorem c_X0_beginsIn_o {Z : Zt} (zo : Zok Z) (l : Launch) (D : va_G) (cy : Cy) (L0 : List Nat) (f0 : Nat → va_E) (a0 : Nat) (x1 : Int) (lx1 : -2147483648 ≤ x1) (ux1 : x1 ≤ 2147483647) (x2 : Int) (lx2 : -2147483648 ≤ x2) (ux2 : x2 ≤ 2147483647) (m_a0 : a0 ∈ L0) (o_a0 : Ob f0 a0 0) (hg : GI cy L0 f0) (g : Int → Int) (p0 : Int) (rb : RB f0 a0 g p0) (O : Int → Int) (oc : OC f0 a0 O) (hk : OKk g p0 O) (m0 : 0 ≤ g (p0 + 1)) (m1 : g (p0 + 1) ≤ 1439) (u0 : -100000000 ≤ x1) (u1 : x1 ≤ 100000000) (w0 : -100000000 ≤ x2) (w1 : x2 ≤ 100000000) : Ci Z l yX0_beginsIn (Cond.code yX0_beginsIn cX0_beginsIn 7 (some .int) :: TB) ({ frames := 4, cells := 0, slots := 0, locals := 96 } : Room) 0 0 D (tq cy) [.ref a0, .int (iI x1), .int (iI x2)] L0 f0 (fun (r : Int) (L1 : List Nat) (f1 : Nat → va_E) => L0 = L1 ∧ f0 = f1 ∧ (r = NB g p0 O x1 x2)) := by
  refine Ci.enter (cc := cX0_beginsIn) (n := 7) rfl (plainFor_of_name (by decide)) (Nat.le_of_ble_eq_true rfl) ?_
  intro p e s m below meth c ls A hx hb hr hts hown hlocks hnm hml hK hA hAe hw hZ hl
  have hown : s.vm.findClass RX0 = some m.cls := hown
  have hl : lv_has ls 7 [(0, .ref a0), (1, .int (iI x1)), (2, .int (iI x2))] := hl
  have hN : ZN s := (zo.2.2.2.2 _ _ _ hZ).2
  have hE : Eh cy f0 f0 := Eh.refl cy f0
  have bb : 0 ≤ fI f0 a0 10 ∧ fI f0 a0 10 ≤ 16 := hg.1 _ m_a0 0 10 o_a0
  have hrq : ∀ d : Int, KG g p0 d → 0 ≤ d ∧ d ≤ 36524 := fun d z => by have := rb.2.1.rg z; omega
  have em : fI f0 a0 1 = g (p0 + 1) := rb.1.1.2.1
  have od : OdR (aI f0 (KA f0 a0)) (aI f0 (TA f0 a0)) (fI f0 a0 10) O := oc
  have nc := od.card bb.1 hk.kb
  have tb : ∀ i : Int, 0 ≤ i → i < fI f0 a0 10 → aI f0 (TA f0 a0) i ≤ 52595999 ∧ -1 ≤ aI f0 (TA f0 a0) i := fun i i0 i1 => by have w := od.at i0 i1 rfl; have v := (hk _ w.2.1).2.2.2; omega
  refine lv_aload_n hx hb dX0_beginsIn_0 rfl (lv_at hl 0 rfl) ?_
  refine lv_iload_n hx hb dX0_beginsIn_1 rfl (lv_at hl 1 rfl) ?_
  refine q_call_i hA hK hw (va_runV (As := [.int (iI x1)]) (rest := []) ⟨hx, hb, hml, hown, hts⟩ (c_X0_ruledFrom_q zo l D cy L0 f0 a0 x1 lx1 ux1 m_a0 o_a0 hg (by omega) (by omega) (by omega) (by omega) _) (cwV 1 hts (gT (inV (mr29 _ (List.mem_of_getElem? (i := 14) rfl)) (mr29 _ (List.mem_of_getElem? (i := 15) rfl)) (mr29 _ (List.mem_of_getElem? (i := 16) rfl)) (mr2 _ (List.mem_of_getElem? (i := 9) rfl)) (mr29 _ (List.mem_of_getElem? (i := 17) rfl)))) rfl rfl rfl (by decide +kernel) ⟨Nat.le_of_ble_eq_true rfl, Nat.le_of_ble_eq_true rfl⟩) (Wd.preV zo hA hZ hw hK m_a0 o_a0 rfl) rfl rfl hl.1 rfl (lv_room (Nat.le_of_ble_eq_true rfl)) dX0_beginsIn_2 ⟨Nat.le_of_ble_eq_true rfl, Nat.le_of_ble_eq_true rfl⟩) (fun x_1 L1 f1 H locs lx_1 ux_1 ex_1 hw => ?_)
  obtain ⟨rfl, rfl, ex_1⟩ := ex_1
  have h2 := ex_1
  refine lv_istore_n (lv' := [(3, .int (iI x_1)), (0, .ref a0), (1, .int (iI x1)), (2, .int (iI x2))]) hx hb dX0_beginsIn_5 rfl hl (by decide) rfl (fun ls hl => ?_)
  refine lv_aload_n hx hb dX0_beginsIn_6 rfl (lv_at hl 1 rfl) ?_
  refine lv_iload_n hx hb dX0_beginsIn_7 rfl (lv_at hl 3 rfl) ?_
  refine q_call_i hA hK hw (va_runV (As := [.int (iI x2)]) (rest := []) ⟨hx, hb, hml, hown, hts⟩ (c_X0_ruledTo_q zo l D cy L0 f0 a0 x2 lx2 ux2 m_a0 o_a0 hg (by omega) (by omega) (by omega) (by omega) _) (cwV 1 hts (gT (inV (mr30 _ (List.mem_of_getElem? (i := 23) rfl)) (mr31 _ (List.mem_of_getElem? (i := 0) rfl)) (mr31 _ (List.mem_of_getElem? (i := 1) rfl)) (mr2 _ (List.mem_of_getElem? (i := 9) rfl)) (mr31 _ (List.mem_of_getElem? (i := 2) rfl)))) rfl rfl rfl (by decide +kernel) ⟨Nat.le_of_ble_eq_true rfl, Nat.le_of_ble_eq_true rfl⟩) (Wd.preV zo hA hZ hw hK m_a0 o_a0 rfl) rfl rfl hl.1 rfl (lv_room (Nat.le_of_ble_eq_true rfl)) dX0_beginsIn_8 ⟨Nat.le_of_ble_eq_true rfl, Nat.le_of_ble_eq_true rfl⟩) (fun x_2 L1 f1 H locs lx_2 ux_2 ex_2 hw => ?_)
  obtain ⟨rfl, rfl, ex_2⟩ := ex_2
  have h8 := ex_2
  refine lv_istore (lv' := [(4, .int (iI x_2)), (3, .int (iI x_1)), (0, .ref a0), (1, .int (iI x1)), (2, .int (iI x2))]) hx hb dX0_beginsIn_11 hl (by decide) rfl (fun ls hl => ?_)
  refine lv_aload_n hx hb dX0_beginsIn_13 rfl (lv_at hl 2 rfl) ?_
  refine lv_iload_n hx hb dX0_beginsIn_14 rfl (lv_at hl 1 rfl) ?_
  refine lv_iload hx hb dX0_beginsIn_15 (lv_at hl 0 rfl) ?_
  refine q_call_i hA hK hw (va_runV (As := [.int (iI x_1), .int (iI x_2)]) (rest := []) ⟨hx, hb, hml, hown, hts⟩ (c_X0_keysIn_g zo l D cy L0 f0 a0 x_1 lx_1 ux_1 x_2 lx_2 ux_2 m_a0 o_a0 hg g p0 rb _) (cwV 2 hts (gT (inV (mr31 _ (List.mem_of_getElem? (i := 19) rfl)) (mr25 _ (List.mem_of_getElem? (i := 17) rfl)) (mr25 _ (List.mem_of_getElem? (i := 18) rfl)) (mr2 _ (List.mem_of_getElem? (i := 9) rfl)) (mr25 _ (List.mem_of_getElem? (i := 19) rfl)))) rfl rfl rfl (by decide +kernel) ⟨Nat.le_of_ble_eq_true rfl, Nat.le_of_ble_eq_true rfl⟩) (Wd.preV zo hA hZ hw hK m_a0 o_a0 rfl) rfl rfl hl.1 rfl (lv_room (Nat.le_of_ble_eq_true rfl)) dX0_beginsIn_17 ⟨Nat.le_of_ble_eq_true rfl, Nat.le_of_ble_eq_true rfl⟩) (fun x_3 L1 f1 H locs lx_3 ux_3 ex_3 hw => ?_)
  obtain ⟨rfl, rfl, ex_3⟩ := ex_3
  have h17 := ex_3
  clear ex_3
  have c17 := cn_pos (p := KG g p0) (a := x_1) (b := x_2 + 1)
  refine lv_istore (lv' := [(5, .int (iI x_3)), (4, .int (iI x_2)), (3, .int (iI x_1)), (0, .ref a0), (1, .int (iI x1)), (2, .int (iI x2))]) hx hb dX0_beginsIn_20 hl (by decide) rfl (fun ls hl => ?_)
  refine q_iconst hx hb dX0_beginsIn_22 ?_
  refine lv_istore (lv' := [(6, .int (iI 0)), (5, .int (iI x_3)), (4, .int (iI x_2)), (3, .int (iI x_1)), (0, .ref a0), (1, .int (iI x1)), (2, .int (iI x2))]) hx hb dX0_beginsIn_23 hl (by decide) rfl (fun ls hl => ?_)
  have J25 : ∀ (n25 : Nat) (y5_25 : Int) (ly5_25 : -2147483648 ≤ y5_25) (uy5_25 : y5_25 ≤ 2147483647) (y6_25 : Int) (ly6_25 : -2147483648 ≤ y6_25) (uy6_25 : y6_25 ≤ 2147483647) (i1 : 0 ≤ y6_25) (i2 : y6_25 ≤ fI f0 a0 10) (nb : NBI (KG g p0) (aI f0 (TA f0 a0)) (aI f0 (KA f0 a0)) x_1 x_2 x1 x2 y6_25 y6_25 y5_25) (hn25 : ((2147483647 : Int) - y6_25).toNat < n25) (H : Heap) (locs : List Loc) (ls : Array Slot) (hw : Wd D A s.heap L0 f0 H locs) (hl : lv_has ls 7 [(0, .ref a0), (1, .int (iI x1)), (2, .int (iI x2)), (3, .int (iI x_1)), (4, .int (iI x_2)), (5, .int (iI y5_25)), (6, .int (iI y6_25))]), W p l e ({ frames := 4, cells := 0, slots := 0, locals := 96 } : Room) s m ([.ref a0, .int (iI x1), .int (iI x2)] : List Value).toArray below meth c H locs (0 + 0 + 0 + 0) (0 + 0 + 0 + 0) (MQ below (Qi D (tq cy) L0 f0 s.heap.size (fun (r : Int) (L1 : List Nat) (f1 : Nat → va_E) => L0 = L1 ∧ f0 = f1 ∧ (r = NB g p0 O x1 x2))) ([.ref a0, .int (iI x1), .int (iI x2)] : List Value).toArray s 0 0 A) (F0 m 25 ls []) := by
    intro n25
    induction n25 with
    | zero => intro y5_25 ly5_25 uy5_25 y6_25 ly6_25 uy6_25 i1 i2 nb hn25; exact absurd hn25 (Nat.not_lt_zero _)
    | succ n25 ih25 =>
      intro y5_25 ly5_25 uy5_25 y6_25 ly6_25 uy6_25 i1 i2 nb hn25 H locs ls hw hl
      have nbb := nb.b i1 i1
      refine lv_iload hx hb dX0_beginsIn_25 (lv_at hl 6 rfl) ?_
      refine lv_aload_n hx hb dX0_beginsIn_27 rfl (lv_at hl 0 rfl) ?_
      refine q_geti (ci := 0) (C := RX0) (T := TX0) (N := 15) hx hb hts (fun w h => List.mem_cons_of_mem _ (mfX00 w h)) hown hK hw m_a0 o_a0 rfl 10 (by decide) (hts _ (List.mem_cons_of_mem _ (mr14 _ (List.mem_of_getElem? (i := 9) rfl)))) (fun _ h => h) rfl dX0_beginsIn_28 (fun x_4 lx_4 ux_4 ex_4 => ?_)
      have bx_4 : 0 ≤ x_4 ∧ x_4 ≤ 16 := by rw [ex_4]; exact hg.1 _ m_a0 0 10 o_a0
      refine q_icmp_ge (tgt := 102) hx hb dX0_beginsIn_31 (by decide) ⟨ly6_25, uy6_25⟩ ⟨lx_4, ux_4⟩ (fun c31 => ?_) (fun c31 => ?_)
      · refine lv_iload hx hb dX0_beginsIn_102 (lv_at hl 5 rfl) ?_
        exact q_ret_i hx hb hr hlocks hK hAe hw ⟨ly5_25, uy5_25⟩ (Nat.le_of_ble_eq_true rfl) (Nat.le_of_ble_eq_true rfl) dX0_beginsIn_104 ⟨rfl, rfl, by exact nb.nb od bb.1 (by omega) (by omega) hk hrq (by omega) (by omega) (by omega) (by omega)⟩
      · refine lv_aload_n hx hb dX0_beginsIn_34 rfl (lv_at hl 0 rfl) ?_
        obtain ⟨r_5, er_5, m_r_5, o_r_5⟩ := (show ∃ r, fR f0 a0 11 = some r ∧ r ∈ L0 ∧ ArI f0 r cy.2.1 16 from hg.2.1 _ m_a0 0 11 o_a0)
        refine q_getr (ci := 0) (C := RX0) (T := TX0) (N := 15) hx hb hts (fun w h => List.mem_cons_of_mem _ (mfX00 w h)) hown hK hw m_a0 o_a0 rfl 11 (by decide) (hts _ (List.mem_cons_of_mem _ (mr3 _ (List.mem_of_getElem? (i := 2) rfl)))) (fun _ h => h) rfl er_5 dX0_beginsIn_35 ?_
        have k35 := KA_e er_5
        refine lv_iload hx hb dX0_beginsIn_38 (lv_at hl 6 rfl) ?_
        refine q_iald hx hb hK hw m_r_5 1 o_r_5 rfl ⟨ly6_25, uy6_25⟩ (by omega) (by omega) dX0_beginsIn_40 (fun x_6 lx_6 ux_6 ex_6 => ?_)
        have h40 : x_6 = aI f0 (KA f0 a0) y6_25 := ex_6.trans (by rw [k35])
        refine lv_iload_n hx hb dX0_beginsIn_41 rfl (lv_at hl 3 rfl) ?_
        have J60 : ∀ (z5_60 : Int) (lz5_60 : -2147483648 ≤ z5_60) (uz5_60 : z5_60 ≤ 2147483647) (n1 : NBI (KG g p0) (aI f0 (TA f0 a0)) (aI f0 (KA f0 a0)) x_1 x_2 x1 x2 (y6_25 + 1) y6_25 z5_60) (H : Heap) (locs : List Loc) (ls : Array Slot) (hw : Wd D A s.heap L0 f0 H locs) (hl : lv_has ls 7 [(0, .ref a0), (1, .int (iI x1)), (2, .int (iI x2)), (3, .int (iI x_1)), (4, .int (iI x_2)), (5, .int (iI z5_60)), (6, .int (iI y6_25))]), W p l e ({ frames := 4, cells := 0, slots := 0, locals := 96 } : Room) s m ([.ref a0, .int (iI x1), .int (iI x2)] : List Value).toArray below meth c H locs (0 + 0 + 0 + 0) (0 + 0 + 0 + 0) (MQ below (Qi D (tq cy) L0 f0 s.heap.size (fun (r : Int) (L1 : List Nat) (f1 : Nat → va_E) => L0 = L1 ∧ f0 = f1 ∧ (r = NB g p0 O x1 x2))) ([.ref a0, .int (iI x1), .int (iI x2)] : List Value).toArray s 0 0 A) (F0 m 60 ls []) := by
          intro z5_60 lz5_60 uz5_60 n1 H locs ls hw hl
          have nbc := n1.b (by omega) i1
          refine lv_aload_n hx hb dX0_beginsIn_60 rfl (lv_at hl 0 rfl) ?_
          obtain ⟨r_7, er_7, m_r_7, o_r_7⟩ := (show ∃ r, fR f0 a0 12 = some r ∧ r ∈ L0 ∧ ArI f0 r cy.2.1 16 from hg.2.1 _ m_a0 0 12 o_a0)
          refine q_getr (ci := 0) (C := RX0) (T := TX0) (N := 15) hx hb hts (fun w h => List.mem_cons_of_mem _ (mfX00 w h)) hown hK hw m_a0 o_a0 rfl 12 (by decide) (hts _ (List.mem_cons_of_mem _ (mr3 _ (List.mem_of_getElem? (i := 3) rfl)))) (fun _ h => h) rfl er_7 dX0_beginsIn_61 ?_
          have k61 := TA_e er_7
          refine lv_iload hx hb dX0_beginsIn_64 (lv_at hl 6 rfl) ?_
          refine q_iald hx hb hK hw m_r_7 1 o_r_7 rfl ⟨ly6_25, uy6_25⟩ (by omega) (by omega) dX0_beginsIn_66 (fun x_8 lx_8 ux_8 ex_8 => ?_)
          have h66 : x_8 = aI f0 (TA f0 a0) y6_25 := ex_8.trans (by rw [k61])
          refine q_iconst hx hb dX0_beginsIn_67 ?_
          have J96 : ∀ (z5_96 : Int) (lz5_96 : -2147483648 ≤ z5_96) (uz5_96 : z5_96 ≤ 2147483647) (n2 : NBI (KG g p0) (aI f0 (TA f0 a0)) (aI f0 (KA f0 a0)) x_1 x_2 x1 x2 (y6_25 + 1) (y6_25 + 1) z5_96) (H : Heap) (locs : List Loc) (ls : Array Slot) (hw : Wd D A s.heap L0 f0 H locs) (hl : lv_has ls 7 [(0, .ref a0), (1, .int (iI x1)), (2, .int (iI x2)), (3, .int (iI x_1)), (4, .int (iI x_2)), (5, .int (iI z5_96)), (6, .int (iI y6_25))]), W p l e ({ frames := 4, cells := 0, slots := 0, locals := 96 } : Room) s m ([.ref a0, .int (iI x1), .int (iI x2)] : List Value).toArray below meth c H locs (0 + 0 + 0 + 0) (0 + 0 + 0 + 0) (MQ below (Qi D (tq cy) L0 f0 s.heap.size (fun (r : Int) (L1 : List Nat) (f1 : Nat → va_E) => L0 = L1 ∧ f0 = f1 ∧ (r = NB g p0 O x1 x2))) ([.ref a0, .int (iI x1), .int (iI x2)] : List Value).toArray s 0 0 A) (F0 m 96 ls []) := by
            intro z5_96 lz5_96 uz5_96 n2 H locs ls hw hl
            obtain ⟨x_9, lx_9, ux_9, hx_9, ex_9⟩ := q_inc y6_25 (1)
            try (replace ex_9 : x_9 = y6_25 + (1) := by omega)
            refine lv_iinc (v := iI x_9) (lv' := [(6, .int (iI x_9)), (0, .ref a0), (1, .int (iI x1)), (2, .int (iI x2)), (3, .int (iI x_1)), (4, .int (iI x_2)), (5, .int (iI z5_96))]) hx hb dX0_beginsIn_96 hl (k := 6) rfl hx_9 (by decide) rfl (fun ls hl => ?_)
            refine lv_goto (tgt := 25) hx hb dX0_beginsIn_99 (by decide) ?_
            exact ih25 z5_96 lz5_96 uz5_96 x_9 lx_9 ux_9 (by omega) (by omega) (by first | exact NBI.start h17 (by omega) (by omega) | exact n2.to (by omega) (by omega) | fail "none") (by omega) _ _ _ hw (lv_sub hl [1, 2, 3, 4, 5, 6, 0] rfl)
          refine q_icmp_eq (tgt := 96) hx hb dX0_beginsIn_68 (by decide) ⟨lx_8, ux_8⟩ ⟨by decide, by decide⟩ (fun c68 => ?_) (fun c68 => ?_)
          · exact J96 z5_60 lz5_60 uz5_60 (by first | exact n1.j i1 rfl h88 (by omega) | exact n1.j i1 rfl h77 (by omega) | exact n1.j i1 rfl h66 (by omega) | fail "none") _ _ _ hw (lv_sub hl [0, 1, 2, 3, 4, 5, 6] rfl)
          · refine lv_aload_n hx hb dX0_beginsIn_71 rfl (lv_at hl 0 rfl) ?_
            refine q_getr (ci := 0) (C := RX0) (T := TX0) (N := 15) hx hb hts (fun w h => List.mem_cons_of_mem _ (mfX00 w h)) hown hK hw m_a0 o_a0 rfl 12 (by decide) (hts _ (List.mem_cons_of_mem _ (mr3 _ (List.mem_of_getElem? (i := 3) rfl)))) (fun _ h => h) rfl er_7 dX0_beginsIn_72 ?_
            have k72 := TA_e er_7
            refine lv_iload hx hb dX0_beginsIn_75 (lv_at hl 6 rfl) ?_
            refine q_iald hx hb hK hw m_r_7 1 o_r_7 rfl ⟨ly6_25, uy6_25⟩ (by omega) (by omega) dX0_beginsIn_77 (fun x_10 lx_10 ux_10 ex_10 => ?_)
            have h77 : x_10 = aI f0 (TA f0 a0) y6_25 := ex_10.trans (by rw [k72])
            refine lv_iload_n hx hb dX0_beginsIn_78 rfl (lv_at hl 1 rfl) ?_
            refine q_icmp_lt (tgt := 96) hx hb dX0_beginsIn_79 (by decide) ⟨lx_10, ux_10⟩ ⟨lx1, ux1⟩ (fun c79 => ?_) (fun c79 => ?_)
            · exact J96 z5_60 lz5_60 uz5_60 (by first | exact n1.j i1 rfl h88 (by omega) | exact n1.j i1 rfl h77 (by omega) | exact n1.j i1 rfl h66 (by omega) | fail "none") _ _ _ hw (lv_sub hl [0, 1, 2, 3, 4, 5, 6] rfl)
            · refine lv_aload_n hx hb dX0_beginsIn_82 rfl (lv_at hl 0 rfl) ?_
              refine q_getr (ci := 0) (C := RX0) (T := TX0) (N := 15) hx hb hts (fun w h => List.mem_cons_of_mem _ (mfX00 w h)) hown hK hw m_a0 o_a0 rfl 12 (by decide) (hts _ (List.mem_cons_of_mem _ (mr3 _ (List.mem_of_getElem? (i := 3) rfl)))) (fun _ h => h) rfl er_7 dX0_beginsIn_83 ?_
              have k83 := TA_e er_7
              refine lv_iload hx hb dX0_beginsIn_86 (lv_at hl 6 rfl) ?_
              refine q_iald hx hb hK hw m_r_7 1 o_r_7 rfl ⟨ly6_25, uy6_25⟩ (by omega) (by omega) dX0_beginsIn_88 (fun x_11 lx_11 ux_11 ex_11 => ?_)
              have h88 : x_11 = aI f0 (TA f0 a0) y6_25 := ex_11.trans (by rw [k83])
              refine lv_iload_n hx hb dX0_beginsIn_89 rfl (lv_at hl 2 rfl) ?_
              refine q_icmp_gt (tgt := 96) hx hb dX0_beginsIn_90 (by decide) ⟨lx_11, ux_11⟩ ⟨lx2, ux2⟩ (fun c90 => ?_) (fun c90 => ?_)
              · exact J96 z5_60 lz5_60 uz5_60 (by first | exact n1.j i1 rfl h88 (by omega) | exact n1.j i1 rfl h77 (by omega) | exact n1.j i1 rfl h66 (by omega) | fail "none") _ _ _ hw (lv_sub hl [0, 1, 2, 3, 4, 5, 6] rfl)
              · obtain ⟨x_12, lx_12, ux_12, hx_12, ex_12⟩ := q_inc z5_60 (1)
                try (replace ex_12 : x_12 = z5_60 + (1) := by omega)
                refine lv_iinc (v := iI x_12) (lv' := [(5, .int (iI x_12)), (0, .ref a0), (1, .int (iI x1)), (2, .int (iI x2)), (3, .int (iI x_1)), (4, .int (iI x_2)), (6, .int (iI y6_25))]) hx hb dX0_beginsIn_93 hl (k := 5) rfl hx_12 (by decide) rfl (fun ls hl => ?_)
                exact J96 x_12 lx_12 ux_12 (by first | exact n1.j i1 rfl h88 (by omega) | exact n1.j i1 rfl h77 (by omega) | exact n1.j i1 rfl h66 (by omega) | fail "none") _ _ _ hw (lv_sub hl [1, 2, 3, 4, 5, 0, 6] rfl)
        refine q_icmp_lt (tgt := 60) hx hb dX0_beginsIn_42 (by decide) ⟨lx_6, ux_6⟩ ⟨lx_1, ux_1⟩ (fun c42 => ?_) (fun c42 => ?_)
        · exact J60 y5_25 ly5_25 uy5_25 (by first | exact nb.i i1 rfl h51 (by omega) | exact nb.i i1 rfl h40 (by omega) | fail "none") _ _ _ hw (lv_sub hl [0, 1, 2, 3, 4, 5, 6] rfl)
        · refine lv_aload_n hx hb dX0_beginsIn_45 rfl (lv_at hl 0 rfl) ?_
          refine q_getr (ci := 0) (C := RX0) (T := TX0) (N := 15) hx hb hts (fun w h => List.mem_cons_of_mem _ (mfX00 w h)) hown hK hw m_a0 o_a0 rfl 11 (by decide) (hts _ (List.mem_cons_of_mem _ (mr3 _ (List.mem_of_getElem? (i := 2) rfl)))) (fun _ h => h) rfl er_5 dX0_beginsIn_46 ?_
          have k46 := KA_e er_5
          refine lv_iload hx hb dX0_beginsIn_49 (lv_at hl 6 rfl) ?_
          refine q_iald hx hb hK hw m_r_5 1 o_r_5 rfl ⟨ly6_25, uy6_25⟩ (by omega) (by omega) dX0_beginsIn_51 (fun x_13 lx_13 ux_13 ex_13 => ?_)
          have h51 : x_13 = aI f0 (KA f0 a0) y6_25 := ex_13.trans (by rw [k46])
          refine lv_iload hx hb dX0_beginsIn_52 (lv_at hl 4 rfl) ?_
          refine q_icmp_gt (tgt := 60) hx hb dX0_beginsIn_54 (by decide) ⟨lx_13, ux_13⟩ ⟨lx_2, ux_2⟩ (fun c54 => ?_) (fun c54 => ?_)
          · exact J60 y5_25 ly5_25 uy5_25 (by first | exact nb.i i1 rfl h51 (by omega) | exact nb.i i1 rfl h40 (by omega) | fail "none") _ _ _ hw (lv_sub hl [0, 1, 2, 3, 4, 5, 6] rfl)
          · obtain ⟨x_14, lx_14, ux_14, hx_14, ex_14⟩ := q_inc y5_25 (-1)
            try (replace ex_14 : x_14 = y5_25 + (-1) := by omega)
            refine lv_iinc (v := iI x_14) (lv' := [(5, .int (iI x_14)), (0, .ref a0), (1, .int (iI x1)), (2, .int (iI x2)), (3, .int (iI x_1)), (4, .int (iI x_2)), (6, .int (iI y6_25))]) hx hb dX0_beginsIn_57 hl (k := 5) rfl hx_14 (by decide) rfl (fun ls hl => ?_)
            exact J60 x_14 lx_14 ux_14 (by first | exact nb.i i1 rfl h51 (by omega) | exact nb.i i1 rfl h40 (by omega) | fail "none") _ _ _ hw (lv_sub hl [1, 2, 3, 4, 5, 0, 6] rfl)
  exact J25 ((((2147483647 : Int) - 0).toNat) + 1) x_3 lx_3 ux_3 0 (by decide) (by decide) (by omega) (by omega) (by first | exact NBI.start h17 (by omega) (by omega) | exact n2.to (by omega) (by omega) | fail "none") (by omega) _ _ _ hw (lv_sub hl [4, 5, 6, 3, 2, 1, 0] rfl)
set_option maxHeartbeats 4000000 in
set_option maxRecDepth 100000 in
theorem c_X9_count_o {Z : Zt} (zo : Zok Z) (l : Launch) (D : va_G) (cy : Cy) (L0 : List Nat) (f0 : Nat → va_E) (a0 : Nat) (x1 : Int) (lx1 : -2147483648 ≤ x1) (ux1 : x1 ≤ 2147483647) (x2 : Int) (lx2 : -2147483648 ≤ x2) (ux2 : x2 ≤ 2147483647) (x3 : Int) (lx3 : -2147483648 ≤ x3) (ux3 : x3 ≤ 2147483647) (m_a0 : a0 ∈ L0) (o_a0 : Ob f0 a0 7) (hg : GI cy L0 f0) (rq : Int → Nat) (g : Int → Int) (mm : Int) (sx : SX f0 a0 rq g mm) (O : Int → Int) (oc : 0 ≤ x1 ∧ x1 < mm → OC f0 (rq x1) O) (hk : 0 ≤ x1 ∧ x1 < mm → OKk g (44 * x1) O) (mb : ∀ i : Int, 0 ≤ i → i < mm → 0 ≤ g (44 * i + 1) ∧ g (44 * i + 1) ≤ 1439) : Ci Z l yX9_count (Cond.code yX9_count cX9_count 4 (some .int) :: TB) ({ frames := 5, cells := 0, slots := 0, locals := 122 } : Room) 0 0 D (tq cy) [.ref a0, .int (iI x1), .int (iI x2), .int (iI x3)] L0 f0 (fun (r : Int) (L1 : List Nat) (f1 : Nat → va_E) => L0 = L1 ∧ f0 = f1 ∧ ((r = -1 ∧ (¬ (0 ≤ x1 ∧ x1 < mm) ∨ x2 < 0 ∨ 36524 < x2 ∨ x3 < 0 ∨ 36524 < x3 ∨ x3 < x2)) ∨ ((0 ≤ x1 ∧ x1 < mm) ∧ 0 ≤ x2 ∧ x2 ≤ x3 ∧ x3 ≤ 36524 ∧ r = NB g (44 * x1) O (1440 * x2) (1440 * x3 + 1439)))) := by
  refine Ci.enter (cc := cX9_count) (n := 4) rfl (plainFor_of_name (by decide)) (Nat.le_of_ble_eq_true rfl) ?_
  intro p e s m below meth c ls A hx hb hr hts hown hlocks hnm hml hK hA hAe hw hZ hl
  have hown : s.vm.findClass RX9 = some m.cls := hown
  have hl : lv_has ls 4 [(0, .ref a0), (1, .int (iI x1)), (2, .int (iI x2)), (3, .int (iI x3))] := hl
  have hN : ZN s := (zo.2.2.2.2 _ _ _ hZ).2
  refine lv_aload_n hx hb dX9_count_0 rfl (lv_at hl 0 rfl) ?_
  obtain ⟨r_1, er_1, m_r_1, o_r_1⟩ := (show ∃ r, fR f0 a0 2 = some r ∧ r ∈ L0 ∧ Ob f0 r 5 from hg.2.1 _ m_a0 7 2 o_a0)
  refine q_getr (ci := 7) (C := RX9) (T := TX9) (N := 4) hx hb hts (fun w h => List.mem_cons_of_mem _ (mfX90 w h)) hown hK hw m_a0 o_a0 rfl 2 (by decide) (hts _ (List.mem_cons_of_mem _ (mr1 _ (List.mem_of_getElem? (i := 20) rfl)))) (fun _ h => h) rfl er_1 dX9_count_1 ?_
  have s1 := sx.at er_1
  refine lv_iload_n hx hb dX9_count_4 rfl (lv_at hl 1 rfl) ?_
  refine q_call_i hA hK hw (va_runV (As := [.int (iI x1)]) (rest := []) ⟨hx, hb, hml, hown, hts⟩ (c_X7_has_f zo l D cy L0 f0 r_1 x1 lx1 ux1 m_r_1 o_r_1 hg _) (cwV 1 hts (gT (inV (mr22 _ (List.mem_of_getElem? (i := 9) rfl)) (mr22 _ (List.mem_of_getElem? (i := 10) rfl)) (mr22 _ (List.mem_of_getElem? (i := 11) rfl)) (mr1 _ (List.mem_of_getElem? (i := 19) rfl)) (mr22 _ (List.mem_of_getElem? (i := 12) rfl)))) rfl rfl rfl (by decide +kernel) ⟨Nat.le_of_ble_eq_true rfl, Nat.le_of_ble_eq_true rfl⟩) (Wd.preV zo hA hZ hw hK m_r_1 o_r_1 rfl) rfl rfl hl.1 rfl (lv_room (Nat.le_of_ble_eq_true rfl)) dX9_count_5 ⟨Nat.le_of_ble_eq_true rfl, Nat.le_of_ble_eq_true rfl⟩) (fun x_2 L1 f1 H locs lx_2 ux_2 ex_2 hw => ?_)
  obtain ⟨rfl, rfl, ex_2⟩ := ex_2
  refine q_if_eq (tgt := 21) hx hb dX9_count_8 (by decide) ⟨lx_2, ux_2⟩ (fun c8 => ?_) (fun c8 => ?_)
  · refine q_iconst hx hb dX9_count_21 ?_
    exact q_ret_i hx hb hr hlocks hK hAe hw ⟨by decide, by decide⟩ (Nat.le_of_ble_eq_true rfl) (Nat.le_of_ble_eq_true rfl) dX9_count_22 ⟨rfl, rfl, by exact Or.inl ⟨rfl, by omega⟩⟩
  · refine lv_iload_n hx hb dX9_count_11 rfl (lv_at hl 2 rfl) ?_
    refine lv_iload_n hx hb dX9_count_12 rfl (lv_at hl 3 rfl) ?_
    refine q_ldc (n := 36525) hx hb hown (hts _ (List.mem_cons_of_mem _ (mr25 _ (List.mem_of_getElem? (i := 12) rfl)))) rfl dX9_count_13 ?_
    refine q_call_i hA hK hw (va_runS (As := [.int (iI x2), .int (iI x3), .int (iI 36525)]) (rest := []) ⟨hx, hb, hml, hown, hts⟩ (c_X9_areDays_f zo l D cy L0 f0 x2 lx2 ux2 x3 lx3 ux3 36525 (by decide) (by decide) _) (va_cwS 3 hts (gT (inS (mr25 _ (List.mem_of_getElem? (i := 13) rfl)) (mr25 _ (List.mem_of_getElem? (i := 14) rfl)) (mr1 _ (List.mem_of_getElem? (i := 2) rfl)) (mr25 _ (List.mem_of_getElem? (i := 15) rfl)))) rfl rfl rfl (by decide +kernel) ⟨Nat.le_of_ble_eq_true rfl, Nat.le_of_ble_eq_true rfl⟩) (Wd.preS zo hA hZ hw hK) rfl rfl hl.1 rfl (lv_room (Nat.le_of_ble_eq_true rfl)) dX9_count_15 ⟨Nat.le_of_ble_eq_true rfl, Nat.le_of_ble_eq_true rfl⟩) (fun x_3 L1 f1 H locs lx_3 ux_3 ex_3 hw => ?_)
    obtain ⟨rfl, rfl, ex_3⟩ := ex_3
    refine q_if_ne (tgt := 23) hx hb dX9_count_18 (by decide) ⟨lx_3, ux_3⟩ (fun c18 => ?_) (fun c18 => ?_)
    · refine lv_aload_n hx hb dX9_count_23 rfl (lv_at hl 0 rfl) ?_
      refine q_getr (ci := 7) (C := RX9) (T := TX9) (N := 4) hx hb hts (fun w h => List.mem_cons_of_mem _ (mfX90 w h)) hown hK hw m_a0 o_a0 rfl 2 (by decide) (hts _ (List.mem_cons_of_mem _ (mr1 _ (List.mem_of_getElem? (i := 20) rfl)))) (fun _ h => h) rfl er_1 dX9_count_24 ?_
      have s1 := sx.at er_1
      refine lv_iload_n hx hb dX9_count_27 rfl (lv_at hl 1 rfl) ?_
      refine q_call_r hA hK hw (va_runV (As := [.int (iI x1)]) (rest := []) ⟨hx, hb, hml, hown, hts⟩ (c_X7_at_f zo l D cy L0 f0 r_1 x1 lx1 ux1 m_r_1 o_r_1 hg (by omega) (by omega) _) (cwV 1 hts (gT (inV (mr24 _ (List.mem_of_getElem? (i := 8) rfl)) (mr24 _ (List.mem_of_getElem? (i := 9) rfl)) (mr24 _ (List.mem_of_getElem? (i := 10) rfl)) (mr1 _ (List.mem_of_getElem? (i := 19) rfl)) (mr24 _ (List.mem_of_getElem? (i := 11) rfl)))) rfl rfl rfl (by decide +kernel) ⟨Nat.le_of_ble_eq_true rfl, Nat.le_of_ble_eq_true rfl⟩) (Wd.preV zo hA hZ hw hK m_r_1 o_r_1 rfl) rfl rfl hl.1 rfl (lv_room (Nat.le_of_ble_eq_true rfl)) dX9_count_28 ⟨Nat.le_of_ble_eq_true rfl, Nat.le_of_ble_eq_true rfl⟩) (fun x_4 L1 f1 H locs ex_4 hw => ?_)
      obtain ⟨rfl, rfl, ex_4⟩ := ex_4
      obtain ⟨m_x_4, o_x_4, ex_4⟩ := ex_4
      have gx := s1.1.row ex_4 (by omega) (by omega)
      have rb := s1.1.rb ex_4 (by omega) (by omega) (by omega)
      refine lv_iload_n hx hb dX9_count_31 rfl (lv_at hl 2 rfl) ?_
      refine q_sipush hx hb dX9_count_32 rfl ?_
      first | refine q_imul hx hb dX9_count_35 ⟨by omega, by omega⟩ (fun x_5 lx_5 ux_5 ex_5 => ?_) | refine q_imulw hx hb dX9_count_35 (fun x_5 lx_5 ux_5 _ => ?_)
      refine lv_iload_n hx hb dX9_count_36 rfl (lv_at hl 3 rfl) ?_
      refine q_sipush hx hb dX9_count_37 rfl ?_
      first | refine q_imul hx hb dX9_count_40 ⟨by omega, by omega⟩ (fun x_6 lx_6 ux_6 ex_6 => ?_) | refine q_imulw hx hb dX9_count_40 (fun x_6 lx_6 ux_6 _ => ?_)
      refine q_sipush hx hb dX9_count_41 rfl ?_
      first | refine q_iadd hx hb dX9_count_44 ⟨by omega, by omega⟩ (fun x_7 lx_7 ux_7 ex_7 => ?_) | refine q_iaddw hx hb dX9_count_44 (fun x_7 lx_7 ux_7 _ => ?_)
      refine q_iconst hx hb dX9_count_45 ?_
      first | refine q_isub hx hb dX9_count_46 ⟨by omega, by omega⟩ (fun x_8 lx_8 ux_8 ex_8 => ?_) | refine q_isubw hx hb dX9_count_46 (fun x_8 lx_8 ux_8 _ => ?_)
      refine q_call_i hA hK hw (va_runV (As := [.int (iI x_5), .int (iI x_8)]) (rest := []) ⟨hx, hb, hml, hown, hts⟩ (c_X0_beginsIn_o zo l D cy L0 f0 x_4 x_5 lx_5 ux_5 x_8 lx_8 ux_8 m_x_4 o_x_4 hg g (44 * x1) rb O (by rw [gx]; exact oc ⟨by omega, by omega⟩) (hk ⟨by omega, by omega⟩) (mb _ (by omega) (by omega)).1 (mb _ (by omega) (by omega)).2 (by omega) (by omega) (by omega) (by omega) _) (cwV 2 hts (gT (inV (mr31 _ (List.mem_of_getElem? (i := 15) rfl)) (mr31 _ (List.mem_of_getElem? (i := 16) rfl)) (mr31 _ (List.mem_of_getElem? (i := 17) rfl)) (mr2 _ (List.mem_of_getElem? (i := 9) rfl)) (mr31 _ (List.mem_of_getElem? (i := 18) rfl)))) rfl rfl rfl (by decide +kernel) ⟨Nat.le_of_ble_eq_true rfl, Nat.le_of_ble_eq_true rfl⟩) (Wd.preV zo hA hZ hw hK m_x_4 o_x_4 rfl) rfl rfl hl.1 rfl (lv_room (Nat.le_of_ble_eq_true rfl)) dX9_count_47 ⟨Nat.le_of_ble_eq_true rfl, Nat.le_of_ble_eq_true rfl⟩) (fun x_9 L1 f1 H locs lx_9 ux_9 ex_9 hw => ?_)
      obtain ⟨rfl, rfl, ex_9⟩ := ex_9
      exact q_ret_i hx hb hr hlocks hK hAe hw ⟨lx_9, ux_9⟩ (Nat.le_of_ble_eq_true rfl) (Nat.le_of_ble_eq_true rfl) dX9_count_50 ⟨rfl, rfl, by exact Or.inr ⟨⟨by omega, by omega⟩, by omega, by omega, by omega, nb_arg ex_9 (by omega) (by omega)⟩⟩
    · refine q_iconst hx hb dX9_count_21 ?_
      exact q_ret_i hx hb hr hlocks hK hAe hw ⟨by decide, by decide⟩ (Nat.le_of_ble_eq_true rfl) (Nat.le_of_ble_eq_true rfl) dX9_count_22 ⟨rfl, rfl, by exact Or.inl ⟨rfl, by omega⟩⟩
