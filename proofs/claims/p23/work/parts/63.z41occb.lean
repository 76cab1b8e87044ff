/-! ===== rows of the machine, and forms that the walks use ===== -/
section QDT
variable {p : Program} {l : Launch} {e : Env} {R : Room} {s : State} {m : MethodId} {args : Array Value} {below : List Frame} {meth : Method} {c : Code} {H : Heap} {locs : List Loc} {cells slots : Nat} {Q : State → Prop}
variable {cc : ByteArray} {pc : Nat} {ls : Array Slot} {rest : List Value}
theorem q_idivt (hx : p.tables.exec = Jvm.exec) (hb : c.code = cc) {x y : Int} (d : decode cc pc = .ok (.idiv, 1)) (rx : rg x) (ry : rg y) (h1 : 0 < y) (k : ∀ z : Int, -2147483648 ≤ z → z ≤ 2147483647 → ((0 ≤ x ∧ z = x / y) ∨ (x < 0 ∧ z = -((-x) / y))) → W p l e R s m args below meth c H locs cells slots Q (F0 m (pc + 1) ls (.int (iI z) :: rest))) : W p l e R s m args below meth c H locs cells slots Q (F0 m pc ls (.int (iI y) :: .int (iI x) :: rest)) := by
  refine lv_idiv hx hb d (q_ne0 ry (by omega)) ?_
  rw [iI_div rx ry (by omega)]
  by_cases h0 : 0 ≤ x
  · obtain ⟨e1, e2, e3⟩ := tdiv_pos h0 h1
    rw [e1]
    exact k _ (by have := rx.1; omega) (by have := rx.2; omega) (Or.inl ⟨h0, rfl⟩)
  · have e1 : x.tdiv y = -((-x).tdiv y) := by rw [Int.neg_tdiv]; omega
    obtain ⟨e2, e3, e4⟩ := tdiv_pos (x := -x) (by omega) h1
    rw [e1, e2]
    exact k _ (by have := rx.1; omega) (by have := rx.2; omega) (Or.inr ⟨by omega, rfl⟩)
end QDT
theorem xor_neg {x y : Int} (rx : rg x) (ry : rg y) (hy : 0 ≤ y) : (iI x ^^^ iI y).toInt < 0 ↔ x < 0 := by
  have e : (iI x ^^^ iI y).toInt = ((iI x).toBitVec ^^^ (iI y).toBitVec).toInt := rfl
  have ex : (iI x).toBitVec.toInt = x := iI_toInt rx
  have ey : (iI y).toBitVec.toInt = y := iI_toInt ry
  have m := BitVec.msb_xor (x := (iI x).toBitVec) (y := (iI y).toBitVec)
  rw [BitVec.msb_eq_toInt, BitVec.msb_eq_toInt, BitVec.msb_eq_toInt, ex, ey, decide_eq_false (show ¬ y < 0 by omega), Bool.xor_false] at m
  rw [e]
  exact decide_eq_decide.mp m
theorem fdiv_ret {x q s r : Int} (hq : (0 ≤ x ∧ q = x / 1440) ∨ (x < 0 ∧ q = -((-x) / 1440))) (hs : s < 0 ↔ x < 0) (hr : (0 ≤ s ∧ r = q) ∨ (s < 0 ∧ q * 1440 = x ∧ r = q) ∨ (s < 0 ∧ q * 1440 ≠ x ∧ r = q - 1)) : r = x / 1440 := by omega
/-! the search from a time on, before what is moved -/
def LSx (K : Int → Prop) (O : Int → Int) (M u j r i : Int) : Prop := ∃ a : Int, (∀ d : Int, K d → (a ≤ d ↔ ¬ Lx (1440 * d + M) d u j)) ∧ LQ K O a r i
def RSx (K : Int → Prop) (O : Int → Int) (M u j r : Int) : Prop := ∃ a : Int, (∀ d : Int, K d → (a ≤ d ↔ ¬ Lx (1440 * d + M) d u j)) ∧ RZ K O a r
theorem LSx.one {K : Int → Prop} {O : Int → Int} {M u j a r i : Int} (a1 : u ≤ 1440 * a + M) (a2 : 1440 * (a - 1) + M < u) (f : Fst K a r) (hr : ∀ d : Int, K d → 0 ≤ d ∧ d ≤ 36524) (c : r = -1 ∨ j ≤ r ∨ 1440 * r + M ≠ u) (hi : i = 0) : LSx K O M u j r i :=
  ⟨a, (sk_from a1 a2 f hr).2 c, LQ.start f hr hi⟩
theorem LSx.two {K : Int → Prop} {O : Int → Int} {M u j a r b r2 i : Int} (a1 : u ≤ 1440 * a + M) (a2 : 1440 * (a - 1) + M < u) (f : Fst K a r) (hr : ∀ d : Int, K d → 0 ≤ d ∧ d ≤ 36524) (c : r ≠ -1 ∧ r < j ∧ 1440 * r + M = u) (f2 : Fst K b r2) (eb : b = r + 1) (hi : i = 0) : LSx K O M u j r2 i := by
  subst eb
  exact ⟨r + 1, (sk_from a1 a2 f hr).1 c, LQ.start f2 hr hi⟩
theorem LSx.step {K : Int → Prop} {O : Int → Int} {M u j r r' i i' b : Int} (h : LSx K O M u j r i) (n : r ≠ -1) (o : O r ≠ -2) (f : Fst K b r') (eb : b = r + 1) (ei : i' = i + 1) (hr : ∀ d : Int, K d → 0 ≤ d ∧ d ≤ 36524) : LSx K O M u j r' i' := by
  obtain ⟨a, h1, h2⟩ := h
  exact ⟨a, h1, h2.step n o f eb ei hr⟩
theorem LSx.to {K : Int → Prop} {O : Int → Int} {M u j r i i' : Int} (h : LSx K O M u j r i) (e : i' = i) : LSx K O M u j r i' := by rw [e]; exact h
theorem LSx.out {K : Int → Prop} {O : Int → Int} {M u j r i n : Int} (h : LSx K O M u j r i) (hn : n = cn (fun k => O k ≠ -2) 0 36525) (hr : ∀ d : Int, K d → 0 ≤ d ∧ d ≤ 36524) (c : r = -1 ∨ n ≤ i ∨ O r = -2) : RSx K O M u j r := by
  obtain ⟨a, h1, h2⟩ := h
  exact ⟨a, h1, h2.out hn hr c⟩
theorem RSx.sk {K : Int → Prop} {O : Int → Int} {M u j r T : Int} (h : RSx K O M u j r) (hr : ∀ d : Int, K d → 0 ≤ d ∧ d ≤ 36524) (ht : (T = 2147483647 ∧ r = -1) ∨ (T = 1440 * r + M ∧ r ≠ -1)) : Sk (Q0 K O M) u j T r := by
  obtain ⟨a, h1, h2⟩ := h
  exact h2.sk h1 hr (by omega)
theorem Fst.kb {K : Int → Prop} {a r : Int} (f : Fst K a r) (hr : ∀ d : Int, K d → 0 ≤ d ∧ d ≤ 36524) : r = -1 ∨ (0 ≤ r ∧ r ≤ 36524) := by
  rcases f with h | h
  · exact Or.inr (hr _ h.2.2.1)
  · exact Or.inl h.1
theorem Lst.kb {K : Int → Prop} {a r : Int} (f : Lst K a r) (hr : ∀ d : Int, K d → 0 ≤ d ∧ d ≤ 36524) : r = -1 ∨ (0 ≤ r ∧ r ≤ 36524) := by
  rcases f with h | h
  · exact Or.inr (hr _ h.2.2.1)
  · exact Or.inl h.1
theorem LR.to {K : Int → Prop} {O : Int → Int} {b r i i' : Int} (h : LR K O b r i) (e : i' = i) : LR K O b r i' := by rw [e]; exact h
theorem Sk.to {Q : Int → Int → Prop} {A B : Int → Int} {u j T K i i' : Int} (h : Sk (PQ Q A B i) u j T K) (e : i' = i) : Sk (PQ Q A B i') u j T K := by rw [e]; exact h
theorem Sa.to {Q : Int → Int → Prop} {A B : Int → Int} {u T K i i' : Int} (h : Sa (PQ Q A B i) u T K) (e : i' = i) : Sa (PQ Q A B i') u T K := by rw [e]; exact h
theorem Sk.oc {g : Int → Int} {p n i u j T K : Int} {O A B : Int → Int} (h : Sk (PQ (Q0 (KG g p) O (g (p + 1))) A B i) u j T K) (o : OdR B A n O) (e : i = n) : Sk (Oc g p O) u j T K := by
  rw [e] at h
  exact h.cg (pq_oc o)
theorem Sa.oc {g : Int → Int} {p n i u T K : Int} {O A B : Int → Int} (h : Sa (PQ (Q0 (KG g p) O (g (p + 1))) A B i) u T K) (o : OdR B A n O) (e : i = n) : Sa (Oc g p O) u T K := by
  rw [e] at h
  exact h.cg (pq_oc o)
/-! how many, by the places of the odds -/
def NBI (K : Int → Prop) (A B : Int → Int) (a b u v i j c : Int) : Prop := c = cn K a (b + 1) - cn (fun l => a ≤ B l ∧ B l ≤ b) 0 i + cn (fun l => A l ≠ -1 ∧ u ≤ A l ∧ A l ≤ v) 0 j
theorem NBI.start {K : Int → Prop} {A B : Int → Int} {a b u v i j c : Int} (h : c = cn K a (b + 1)) (hi : i ≤ 0) (hj : j ≤ 0) : NBI K A B a b u v i j c := by
  unfold NBI
  rw [cn_le hi, cn_le hj]
  omega
theorem NBI.i {K : Int → Prop} {A B : Int → Int} {a b u v i i' j c c' x : Int} (h : NBI K A B a b u v i j c) (i0 : 0 ≤ i) (ei : i' = i + 1) (ex : x = B i) (hz : (a ≤ x ∧ x ≤ b ∧ c' = c - 1) ∨ ((x < a ∨ b < x) ∧ c' = c)) : NBI K A B a b u v i' j c' := by
  subst ei
  subst ex
  unfold NBI at h ⊢
  rcases hz with ⟨z1, z2, z3⟩ | ⟨z1, z2⟩
  · rw [cn_yes (p := fun l => a ≤ B l ∧ B l ≤ b) i0 ⟨z1, z2⟩]; omega
  · rw [cn_no (p := fun l => a ≤ B l ∧ B l ≤ b) i0 (fun w => by have w1 := w.1; have w2 := w.2; omega)]; omega
theorem NBI.j {K : Int → Prop} {A B : Int → Int} {a b u v i j j' c c' x : Int} (h : NBI K A B a b u v i j c) (j0 : 0 ≤ j) (ej : j' = j + 1) (ex : x = A j) (hz : (x ≠ -1 ∧ u ≤ x ∧ x ≤ v ∧ c' = c + 1) ∨ ((x = -1 ∨ x < u ∨ v < x) ∧ c' = c)) : NBI K A B a b u v i j' c' := by
  subst ej
  subst ex
  unfold NBI at h ⊢
  rcases hz with ⟨z1, z2, z3, z4⟩ | ⟨z1, z2⟩
  · rw [cn_yes (p := fun l => A l ≠ -1 ∧ u ≤ A l ∧ A l ≤ v) j0 ⟨z1, z2, z3⟩]; omega
  · rw [cn_no (p := fun l => A l ≠ -1 ∧ u ≤ A l ∧ A l ≤ v) j0 (fun w => by have w1 := w.1; have w2 := w.2; omega)]; omega
theorem NBI.to {K : Int → Prop} {A B : Int → Int} {a b u v i i' j j' c : Int} (h : NBI K A B a b u v i j c) (e1 : i' = i) (e2 : j' = j) : NBI K A B a b u v i' j' c := by rw [e1, e2]; exact h
theorem NBI.b {K : Int → Prop} {A B : Int → Int} {a b u v i j c : Int} (h : NBI K A B a b u v i j c) (i0 : 0 ≤ i) (j0 : 0 ≤ j) : -i ≤ c ∧ c ≤ max 0 (b + 1 - a) + j := by
  unfold NBI at h
  have c1 := cn_pos (p := K) (a := a) (b := b + 1)
  have c2 := cn_pos (p := fun l => a ≤ B l ∧ B l ≤ b) (a := 0) (b := i)
  have c3 := cn_pos (p := fun l => A l ≠ -1 ∧ u ≤ A l ∧ A l ≤ v) (a := 0) (b := j)
  omega
theorem NBI.nb {g : Int → Int} {p n a b u v i j c : Int} {O A B : Int → Int} (h : NBI (KG g p) A B a b u v i j c) (o : OdR B A n O) (n0 : 0 ≤ n) (e1 : i = n) (e2 : j = n) (hk : OKk g p O) (hr : ∀ d : Int, KG g p d → 0 ≤ d ∧ d ≤ 36524) (a1 : u ≤ 1440 * a + g (p + 1)) (a2 : 1440 * (a - 1) + g (p + 1) < u) (b1 : 1440 * b + g (p + 1) ≤ v) (b2 : v < 1440 * (b + 1) + g (p + 1)) : c = NB g p O u v := by
  rw [e1, e2] at h
  exact nb_fin o n0 hk hr a1 a2 b1 b2 h
theorem nb_arg {g : Int → Int} {p a a' b b' r : Int} {O : Int → Int} (h : r = NB g p O a b) (ea : a = a') (eb : b = b') : r = NB g p O a' b' := by rw [← ea, ← eb]; exact h
theorem LL.pq {Q : Int → Int → Prop} {A B tm ks : Int → Int} {i i' n n' : Int} (h : LL (PQ Q A B i) tm ks n) (ei : i' = i) (en : n' = n) : LL (PQ Q A B i') tm ks n' := by rw [ei, en]; exact h
theorem LL.oc {g : Int → Int} {p n m i : Int} {O A B tm ks : Int → Int} (h : LL (PQ (Q0 (KG g p) O (g (p + 1))) A B i) tm ks m) (o : OdR B A n O) (e : i = n) : LL (Oc g p O) tm ks m := by
  rw [e] at h
  exact h.cg (pq_oc o)
theorem kg_rg {g : Int → Int} {p : Int} (h8 : g (p + 8) ≤ 36524) (h10 : 0 ≤ g (p + 10)) : ∀ d : Int, KG g p d → 0 ≤ d ∧ d ≤ 36524 := fun d z => by
  have z1 := z.at
  have z2 : HI (g (p + 8)) ≤ 36524 := by unfold HI; split <;> omega
  omega
set_option maxHeartbeats 4000000 in
set_option maxRecDepth 100000 in
theorem c_J9_floorDiv_7cf53_q {Z : Zt} (zo : Zok Z) (l : Launch) (D : va_G) (cy : Cy) (L0 : List Nat) (f0 : Nat → va_E) (x0 : Int) (lx0 : -2147483648 ≤ x0) (ux0 : x0 ≤ 2147483647) (x1 : Int) (lx1 : -2147483648 ≤ x1) (ux1 : x1 ≤ 2147483647) (h1 : x1 = 1440) (h2 : -1000000000 ≤ x0) (h3 : x0 ≤ 1000000000) : Ci Z l yJ9_floorDiv_7cf53 (Cond.code yJ9_floorDiv_7cf53 cJ9_floorDiv_7cf53 3 (some .int) :: TB) ({ frames := 0, cells := 0, slots := 0, locals := 0 } : Room) 0 0 D (tq cy) [.int (iI x0), .int (iI x1)] L0 f0 (fun (r : Int) (L1 : List Nat) (f1 : Nat → va_E) => L0 = L1 ∧ f0 = f1 ∧ (r = x0 / 1440)) := by
  refine Ci.enter (cc := cJ9_floorDiv_7cf53) (n := 3) rfl (by decide +kernel) (Nat.le_of_ble_eq_true rfl) ?_
  intro p e s m below meth c ls A hx hb hr hts hown hlocks hnm hml hK hA hAe hw hZ hl
  have hown : s.vm.findClass RJ9 = some m.cls := hown
  have hl : lv_has ls 3 [(0, .int (iI x0)), (1, .int (iI x1))] := hl
  have hN : ZN s := (zo.2.2.2.2 _ _ _ hZ).2
  refine lv_iload_n hx hb dJ9_floorDiv_7cf53_0 rfl (lv_at hl 0 rfl) ?_
  refine lv_iload_n hx hb dJ9_floorDiv_7cf53_1 rfl (lv_at hl 1 rfl) ?_
  refine q_idivt hx hb dJ9_floorDiv_7cf53_2 ⟨lx0, ux0⟩ ⟨lx1, ux1⟩ (by omega) (fun x_1 lx_1 ux_1 ex_1 => ?_)
  rw [h1] at ex_1
  have d2 := ex_1
  refine lv_istore_n (lv' := [(2, .int (iI x_1)), (0, .int (iI x0)), (1, .int (iI x1))]) hx hb dJ9_floorDiv_7cf53_3 rfl hl (by decide) rfl (fun ls hl => ?_)
  refine lv_iload_n hx hb dJ9_floorDiv_7cf53_4 rfl (lv_at hl 1 rfl) ?_
  refine lv_iload_n hx hb dJ9_floorDiv_7cf53_5 rfl (lv_at hl 2 rfl) ?_
  refine lv_ixor hx hb dJ9_floorDiv_7cf53_6 ?_
  refine q_num (fun x_2 lx_2 ux_2 ex_2 => ?_)
  have n6 : x_2 < 0 ↔ x0 < 0 := by rw [ex_2]; exact xor_neg ⟨lx0, ux0⟩ ⟨lx1, ux1⟩ (by omega)
  refine q_if_ge (tgt := 21) hx hb dJ9_floorDiv_7cf53_7 (by decide) ⟨lx_2, ux_2⟩ (fun c7 => ?_) (fun c7 => ?_)
  · refine lv_iload_n hx hb dJ9_floorDiv_7cf53_21 rfl (lv_at hl 0 rfl) ?_
    exact q_ret_i hx hb hr hlocks hK hAe hw ⟨lx_1, ux_1⟩ (Nat.le_of_ble_eq_true rfl) (Nat.le_of_ble_eq_true rfl) dJ9_floorDiv_7cf53_22 ⟨rfl, rfl, by exact fdiv_ret d2 n6 (by omega)⟩
  · refine lv_iload_n hx hb dJ9_floorDiv_7cf53_10 rfl (lv_at hl 0 rfl) ?_
    refine lv_iload_n hx hb dJ9_floorDiv_7cf53_11 rfl (lv_at hl 2 rfl) ?_
    refine lv_imul hx hb dJ9_floorDiv_7cf53_12 ?_
    refine q_num (fun x_3 lx_3 ux_3 ex_3 => ?_)
    have m12 : x_3 = x_1 * 1440 := by rw [ex_3, h1, iI_mul, iI_toInt ⟨by omega, by omega⟩]
    refine lv_iload_n hx hb dJ9_floorDiv_7cf53_13 rfl (lv_at hl 1 rfl) ?_
    refine q_icmp_eq (tgt := 21) hx hb dJ9_floorDiv_7cf53_14 (by decide) ⟨lx_3, ux_3⟩ ⟨lx0, ux0⟩ (fun c14 => ?_) (fun c14 => ?_)
    · refine lv_iload_n hx hb dJ9_floorDiv_7cf53_21 rfl (lv_at hl 0 rfl) ?_
      exact q_ret_i hx hb hr hlocks hK hAe hw ⟨lx_1, ux_1⟩ (Nat.le_of_ble_eq_true rfl) (Nat.le_of_ble_eq_true rfl) dJ9_floorDiv_7cf53_22 ⟨rfl, rfl, by exact fdiv_ret d2 n6 (by omega)⟩
    · refine lv_iload_n hx hb dJ9_floorDiv_7cf53_17 rfl (lv_at hl 0 rfl) ?_
      refine q_iconst hx hb dJ9_floorDiv_7cf53_18 ?_
      refine lv_isub hx hb dJ9_floorDiv_7cf53_19 ?_
      refine q_num (fun x_4 lx_4 ux_4 ex_4 => ?_)
      have m19 : x_4 = x_1 - 1 := by rw [ex_4, iI_sub, iI_toInt ⟨by omega, by omega⟩]
      exact q_ret_i hx hb hr hlocks hK hAe hw ⟨lx_4, ux_4⟩ (Nat.le_of_ble_eq_true rfl) (Nat.le_of_ble_eq_true rfl) dJ9_floorDiv_7cf53_20 ⟨rfl, rfl, by exact fdiv_ret d2 n6 (by omega)⟩
set_option maxHeartbeats 4000000 in
set_option maxRecDepth 100000 in
theorem c_X0_ruledFrom_q {Z : Zt} (zo : Zok Z) (l : Launch) (D : va_G) (cy : Cy) (L0 : List Nat) (f0 : Nat → va_E) (a0 : Nat) (x1 : Int) (lx1 : -2147483648 ≤ x1) (ux1 : x1 ≤ 2147483647) (m_a0 : a0 ∈ L0) (o_a0 : Ob f0 a0 0) (hg : GI cy L0 f0) (m0 : 0 ≤ fI f0 a0 1) (m1 : fI f0 a0 1 ≤ 1439) (u0 : -100000000 ≤ x1) (u1 : x1 ≤ 100000000) : Ci Z l yX0_ruledFrom (Cond.code yX0_ruledFrom cX0_ruledFrom 2 (some .int) :: TB) ({ frames := 1, cells := 0, slots := 0, locals := 22 } : Room) 0 0 D (tq cy) [.ref a0, .int (iI x1)] L0 f0 (fun (r : Int) (L1 : List Nat) (f1 : Nat → va_E) => L0 = L1 ∧ f0 = f1 ∧ (x1 ≤ 1440 * r + fI f0 a0 1 ∧ 1440 * (r - 1) + fI f0 a0 1 < x1)) := by
  refine Ci.enter (cc := cX0_ruledFrom) (n := 2) rfl (plainFor_of_name (by decide)) (Nat.le_of_ble_eq_true rfl) ?_
  intro p e s m below meth c ls A hx hb hr hts hown hlocks hnm hml hK hA hAe hw hZ hl
  have hown : s.vm.findClass RX0 = some m.cls := hown
  have hl : lv_has ls 2 [(0, .ref a0), (1, .int (iI x1))] := hl
  have hN : ZN s := (zo.2.2.2.2 _ _ _ hZ).2
  refine lv_iload_n hx hb dX0_ruledFrom_0 rfl (lv_at hl 1 rfl) ?_
  refine lv_aload_n hx hb dX0_ruledFrom_1 rfl (lv_at hl 0 rfl) ?_
  refine q_geti (ci := 0) (C := RX0) (T := TX0) (N := 15) hx hb hts (fun w h => List.mem_cons_of_mem _ (mfX00 w h)) hown hK hw m_a0 o_a0 rfl 1 (by decide) (hts _ (List.mem_cons_of_mem _ (mr29 _ (List.mem_of_getElem? (i := 18) rfl)))) (fun _ h => h) rfl dX0_ruledFrom_2 (fun x_1 lx_1 ux_1 ex_1 => ?_)
  first | refine q_isub hx hb dX0_ruledFrom_5 ⟨by omega, by omega⟩ (fun x_2 lx_2 ux_2 ex_2 => ?_) | refine q_isubw hx hb dX0_ruledFrom_5 (fun x_2 lx_2 ux_2 _ => ?_)
  refine q_sipush hx hb dX0_ruledFrom_6 rfl ?_
  first | refine q_iadd hx hb dX0_ruledFrom_9 ⟨by omega, by omega⟩ (fun x_3 lx_3 ux_3 ex_3 => ?_) | refine q_iaddw hx hb dX0_ruledFrom_9 (fun x_3 lx_3 ux_3 _ => ?_)
  refine q_iconst hx hb dX0_ruledFrom_10 ?_
  first | refine q_isub hx hb dX0_ruledFrom_11 ⟨by omega, by omega⟩ (fun x_4 lx_4 ux_4 ex_4 => ?_) | refine q_isubw hx hb dX0_ruledFrom_11 (fun x_4 lx_4 ux_4 _ => ?_)
  refine q_sipush hx hb dX0_ruledFrom_12 rfl ?_
  refine q_call_i hA hK hw (va_runS (As := [.int (iI x_4), .int (iI 1440)]) (rest := []) ⟨hx, hb, hml, hown, hts⟩ (c_J9_floorDiv_7cf53_q zo l D cy L0 f0 x_4 lx_4 ux_4 1440 (by decide) (by decide) (by omega) (by omega) (by omega) _) (va_cwS 2 hts (gT (inS (mr29 _ (List.mem_of_getElem? (i := 19) rfl)) (mr29 _ (List.mem_of_getElem? (i := 20) rfl)) (mr29 _ (List.mem_of_getElem? (i := 21) rfl)) (mr29 _ (List.mem_of_getElem? (i := 22) rfl)))) rfl rfl rfl (by decide +kernel) ⟨Nat.le_of_ble_eq_true rfl, Nat.le_of_ble_eq_true rfl⟩) (Wd.preS zo hA hZ hw hK) rfl rfl hl.1 rfl (lv_room (Nat.le_of_ble_eq_true rfl)) dX0_ruledFrom_15 ⟨Nat.le_of_ble_eq_true rfl, Nat.le_of_ble_eq_true rfl⟩) (fun x_5 L1 f1 H locs lx_5 ux_5 ex_5 hw => ?_)
  obtain ⟨rfl, rfl, ex_5⟩ := ex_5
  exact q_ret_i hx hb hr hlocks hK hAe hw ⟨lx_5, ux_5⟩ (Nat.le_of_ble_eq_true rfl) (Nat.le_of_ble_eq_true rfl) dX0_ruledFrom_18 ⟨rfl, rfl, by omega⟩
set_option maxHeartbeats 4000000 in
set_option maxRecDepth 100000 in
theorem c_X0_ruledTo_q {Z : Zt} (zo : Zok Z) (l : Launch) (D : va_G) (cy : Cy) (L0 : List Nat) (f0 : Nat → va_E) (a0 : Nat) (x1 : Int) (lx1 : -2147483648 ≤ x1) (ux1 : x1 ≤ 2147483647) (m_a0 : a0 ∈ L0) (o_a0 : Ob f0 a0 0) (hg : GI cy L0 f0) (m0 : 0 ≤ fI f0 a0 1) (m1 : fI f0 a0 1 ≤ 1439) (u0 : -100000000 ≤ x1) (u1 : x1 ≤ 100000000) : Ci Z l yX0_ruledTo (Cond.code yX0_ruledTo cX0_ruledTo 2 (some .int) :: TB) ({ frames := 1, cells := 0, slots := 0, locals := 22 } : Room) 0 0 D (tq cy) [.ref a0, .int (iI x1)] L0 f0 (fun (r : Int) (L1 : List Nat) (f1 : Nat → va_E) => L0 = L1 ∧ f0 = f1 ∧ (1440 * r + fI f0 a0 1 ≤ x1 ∧ x1 < 1440 * (r + 1) + fI f0 a0 1)) := by
  refine Ci.enter (cc := cX0_ruledTo) (n := 2) rfl (plainFor_of_name (by decide)) (Nat.le_of_ble_eq_true rfl) ?_
  intro p e s m below meth c ls A hx hb hr hts hown hlocks hnm hml hK hA hAe hw hZ hl
  have hown : s.vm.findClass RX0 = some m.cls := hown
  have hl : lv_has ls 2 [(0, .ref a0), (1, .int (iI x1))] := hl
  have hN : ZN s := (zo.2.2.2.2 _ _ _ hZ).2
  refine lv_iload_n hx hb dX0_ruledTo_0 rfl (lv_at hl 1 rfl) ?_
  refine lv_aload_n hx hb dX0_ruledTo_1 rfl (lv_at hl 0 rfl) ?_
  refine q_geti (ci := 0) (C := RX0) (T := TX0) (N := 15) hx hb hts (fun w h => List.mem_cons_of_mem _ (mfX00 w h)) hown hK hw m_a0 o_a0 rfl 1 (by decide) (hts _ (List.mem_cons_of_mem _ (mr29 _ (List.mem_of_getElem? (i := 18) rfl)))) (fun _ h => h) rfl dX0_ruledTo_2 (fun x_1 lx_1 ux_1 ex_1 => ?_)
  first | refine q_isub hx hb dX0_ruledTo_5 ⟨by omega, by omega⟩ (fun x_2 lx_2 ux_2 ex_2 => ?_) | refine q_isubw hx hb dX0_ruledTo_5 (fun x_2 lx_2 ux_2 _ => ?_)
  refine q_sipush hx hb dX0_ruledTo_6 rfl ?_
  refine q_call_i hA hK hw (va_runS (As := [.int (iI x_2), .int (iI 1440)]) (rest := []) ⟨hx, hb, hml, hown, hts⟩ (c_J9_floorDiv_7cf53_q zo l D cy L0 f0 x_2 lx_2 ux_2 1440 (by decide) (by decide) (by omega) (by omega) (by omega) _) (va_cwS 2 hts (gT (inS (mr29 _ (List.mem_of_getElem? (i := 19) rfl)) (mr29 _ (List.mem_of_getElem? (i := 20) rfl)) (mr29 _ (List.mem_of_getElem? (i := 21) rfl)) (mr29 _ (List.mem_of_getElem? (i := 22) rfl)))) rfl rfl rfl (by decide +kernel) ⟨Nat.le_of_ble_eq_true rfl, Nat.le_of_ble_eq_true rfl⟩) (Wd.preS zo hA hZ hw hK) rfl rfl hl.1 rfl (lv_room (Nat.le_of_ble_eq_true rfl)) dX0_ruledTo_9 ⟨Nat.le_of_ble_eq_true rfl, Nat.le_of_ble_eq_true rfl⟩) (fun x_3 L1 f1 H locs lx_3 ux_3 ex_3 hw => ?_)
  obtain ⟨rfl, rfl, ex_3⟩ := ex_3
  exact q_ret_i hx hb hr hlocks hK hAe hw ⟨lx_3, ux_3⟩ (Nat.le_of_ble_eq_true rfl) (Nat.le_of_ble_eq_true rfl) dX0_ruledTo_12 ⟨rfl, rfl, by omega⟩
set_option maxHeartbeats 4000000 in
set_option maxRecDepth 100000 in
theorem c_X0_timeOf_q {Z : Zt} (zo : Zok Z) (l : Launch) (D : va_G) (cy : Cy) (L0 : List Nat) (f0 : Nat → va_E) (a0 : Nat) (x1 : Int) (lx1 : -2147483648 ≤ x1) (ux1 : x1 ≤ 2147483647) (m_a0 : a0 ∈ L0) (o_a0 : Ob f0 a0 0) (hg : GI cy L0 f0) (m0 : 0 ≤ fI f0 a0 1) (m1 : fI f0 a0 1 ≤ 1439) (d0 : -40000 ≤ x1) (d1 : x1 ≤ 40000) : Ci Z l yX0_timeOf (Cond.code yX0_timeOf cX0_timeOf 2 (some .int) :: TB) ({ frames := 0, cells := 0, slots := 0, locals := 0 } : Room) 0 0 D (tq cy) [.ref a0, .int (iI x1)] L0 f0 (fun (r : Int) (L1 : List Nat) (f1 : Nat → va_E) => L0 = L1 ∧ f0 = f1 ∧ (r = 1440 * x1 + fI f0 a0 1)) := by
  refine Ci.enter (cc := cX0_timeOf) (n := 2) rfl (plainFor_of_name (by decide)) (Nat.le_of_ble_eq_true rfl) ?_
  intro p e s m below meth c ls A hx hb hr hts hown hlocks hnm hml hK hA hAe hw hZ hl
  have hown : s.vm.findClass RX0 = some m.cls := hown
  have hl : lv_has ls 2 [(0, .ref a0), (1, .int (iI x1))] := hl
  have hN : ZN s := (zo.2.2.2.2 _ _ _ hZ).2
  refine lv_iload_n hx hb dX0_timeOf_0 rfl (lv_at hl 1 rfl) ?_
  refine q_sipush hx hb dX0_timeOf_1 rfl ?_
  first | refine q_imul hx hb dX0_timeOf_4 ⟨by omega, by omega⟩ (fun x_1 lx_1 ux_1 ex_1 => ?_) | refine q_imulw hx hb dX0_timeOf_4 (fun x_1 lx_1 ux_1 _ => ?_)
  refine lv_aload_n hx hb dX0_timeOf_5 rfl (lv_at hl 0 rfl) ?_
  refine q_geti (ci := 0) (C := RX0) (T := TX0) (N := 15) hx hb hts (fun w h => List.mem_cons_of_mem _ (mfX00 w h)) hown hK hw m_a0 o_a0 rfl 1 (by decide) (hts _ (List.mem_cons_of_mem _ (mr29 _ (List.mem_of_getElem? (i := 18) rfl)))) (fun _ h => h) rfl dX0_timeOf_6 (fun x_2 lx_2 ux_2 ex_2 => ?_)
  first | refine q_iadd hx hb dX0_timeOf_9 ⟨by omega, by omega⟩ (fun x_3 lx_3 ux_3 ex_3 => ?_) | refine q_iaddw hx hb dX0_timeOf_9 (fun x_3 lx_3 ux_3 _ => ?_)
  exact q_ret_i hx hb hr hlocks hK hAe hw ⟨lx_3, ux_3⟩ (Nat.le_of_ble_eq_true rfl) (Nat.le_of_ble_eq_true rfl) dX0_timeOf_10 ⟨rfl, rfl, by omega⟩
set_option maxHeartbeats 4000000 in
set_option maxRecDepth 100000 in
theorem c_X0_seek_o {Z : Zt} (zo : Zok Z) (l : Launch) (D : va_G) (cy : Cy) (L0 : List Nat) (f0 : Nat → va_E) (a0 : Nat) (x1 : Int) (lx1 : -2147483648 ≤ x1) (ux1 : x1 ≤ 2147483647) (x2 : Int) (lx2 : -2147483648 ≤ x2) (ux2 : x2 ≤ 2147483647) (m_a0 : a0 ∈ L0) (o_a0 : Ob f0 a0 0) (hg : GI cy L0 f0) (g : Int → Int) (p0 : Int) (rb : RB f0 a0 g p0) (O : Int → Int) (oc : OC f0 a0 O) (hk : OKk g p0 O) (m0 : 0 ≤ g (p0 + 1)) (m1 : g (p0 + 1) ≤ 1439) (u0 : -100000000 ≤ x1) (u1 : x1 ≤ 100000000) : Ci Z l yX0_seek (Cond.code yX0_seek cX0_seek 8 (some .boolean) :: TB) ({ frames := 4, cells := 0, slots := 0, locals := 90 } : Room) 0 0 D (tq cy) [.ref a0, .int (iI x1), .int (iI x2)] L0 f0 (fun (r : Int) (L1 : List Nat) (f1 : Nat → va_E) => L0 = L1 ∧ GI cy L0 f1 ∧ Eh cy f0 f1 ∧ (Sk (Oc g p0 O) x1 x2 (fI f1 a0 13) (fI f1 a0 14) ∧ ((r = 1 ∧ fI f1 a0 14 ≠ -1) ∨ (r = 0 ∧ fI f1 a0 14 = -1)))) := by
  refine Ci.enter (cc := cX0_seek) (n := 8) rfl (plainFor_of_name (by decide)) (Nat.le_of_ble_eq_true rfl) ?_
  intro p e s m below meth c ls A hx hb hr hts hown hlocks hnm hml hK hA hAe hw hZ hl
  have hown : s.vm.findClass RX0 = some m.cls := hown
  have hl : lv_has ls 8 [(0, .ref a0), (1, .int (iI x1)), (2, .int (iI x2))] := hl
  have hN : ZN s := (zo.2.2.2.2 _ _ _ hZ).2
  have hE : Eh cy f0 f0 := Eh.refl cy f0
  have bb : 0 ≤ fI f0 a0 10 ∧ fI f0 a0 10 ≤ 16 := hg.1 _ m_a0 0 10 o_a0
  have hrq : ∀ d : Int, KG g p0 d → 0 ≤ d ∧ d ≤ 36524 := fun d z => by have := rb.2.1.rg z; omega
  have em : fI f0 a0 1 = g (p0 + 1) := rb.1.1.2.1
  have od : OdR (aI f0 (KA f0 a0)) (aI f0 (TA f0 a0)) (fI f0 a0 10) O := oc
  have nc := od.card bb.1 hk.kb
  have tb : ∀ i : Int, 0 ≤ i → i < fI f0 a0 10 → aI f0 (TA f0 a0) i ≤ 52595999 ∧ -1 ≤ aI f0 (TA f0 a0) i := fun i i0 i1 => by have w := od.at i0 i1 rfl; have v := (hk _ w.2.1).2.2.2; omega
  refine lv_aload_n hx hb dX0_seek_0 rfl (lv_at hl 0 rfl) ?_
  refine lv_aload_n hx hb dX0_seek_1 rfl (lv_at hl 0 rfl) ?_
  refine lv_iload_n hx hb dX0_seek_2 rfl (lv_at hl 1 rfl) ?_
  refine q_call_i hA hK hw (va_runV (As := [.int (iI x1)]) (rest := [.ref a0]) ⟨hx, hb, hml, hown, hts⟩ (c_X0_ruledFrom_q zo l D cy L0 f0 a0 x1 lx1 ux1 m_a0 o_a0 hg (by omega) (by omega) (by omega) (by omega) _) (cwV 1 hts (gT (inV (mr29 _ (List.mem_of_getElem? (i := 14) rfl)) (mr29 _ (List.mem_of_getElem? (i := 15) rfl)) (mr29 _ (List.mem_of_getElem? (i := 16) rfl)) (mr2 _ (List.mem_of_getElem? (i := 9) rfl)) (mr29 _ (List.mem_of_getElem? (i := 17) rfl)))) rfl rfl rfl (by decide +kernel) ⟨Nat.le_of_ble_eq_true rfl, Nat.le_of_ble_eq_true rfl⟩) (Wd.preV zo hA hZ hw hK m_a0 o_a0 rfl) rfl rfl hl.1 rfl (lv_room (Nat.le_of_ble_eq_true rfl)) dX0_seek_3 ⟨Nat.le_of_ble_eq_true rfl, Nat.le_of_ble_eq_true rfl⟩) (fun x_1 L1 f1 H locs lx_1 ux_1 ex_1 hw => ?_)
  obtain ⟨rfl, rfl, ex_1⟩ := ex_1
  obtain ⟨aa, eaa⟩ : ∃ z : Int, z = x_1 := ⟨_, rfl⟩
  have h3 := ex_1
  rw [← eaa] at h3
  refine q_call_i hA hK hw (va_runV (As := [.int (iI x_1)]) (rest := []) ⟨hx, hb, hml, hown, hts⟩ (c_X0_keyFrom_g zo l D cy L0 f0 a0 x_1 lx_1 ux_1 m_a0 o_a0 hg g p0 rb _) (cwV 1 hts (gT (inV (mr26 _ (List.mem_of_getElem? (i := 10) rfl)) (mr24 _ (List.mem_of_getElem? (i := 13) rfl)) (mr24 _ (List.mem_of_getElem? (i := 14) rfl)) (mr2 _ (List.mem_of_getElem? (i := 9) rfl)) (mr24 _ (List.mem_of_getElem? (i := 15) rfl)))) rfl rfl rfl (by decide +kernel) ⟨Nat.le_of_ble_eq_true rfl, Nat.le_of_ble_eq_true rfl⟩) (Wd.preV zo hA hZ hw hK m_a0 o_a0 rfl) rfl rfl hl.1 rfl (lv_room (Nat.le_of_ble_eq_true rfl)) dX0_seek_6 ⟨Nat.le_of_ble_eq_true rfl, Nat.le_of_ble_eq_true rfl⟩) (fun x_2 L1 f1 H locs lx_2 ux_2 ex_2 hw => ?_)
  obtain ⟨rfl, rfl, ex_2⟩ := ex_2
  have f6 : Fst (KG g p0) aa x_2 := by rw [eaa]; exact ex_2
  have b6 := f6.kb hrq
  clear ex_2
  refine lv_istore_n (lv' := [(3, .int (iI x_2)), (0, .ref a0), (1, .int (iI x1)), (2, .int (iI x2))]) hx hb dX0_seek_9 rfl hl (by decide) rfl (fun ls hl => ?_)
  refine lv_iload_n hx hb dX0_seek_10 rfl (lv_at hl 0 rfl) ?_
  refine q_iconst hx hb dX0_seek_11 ?_
  have J37 : ∀ (z3_37 : Int) (lz3_37 : -2147483648 ≤ z3_37) (uz3_37 : z3_37 ≤ 2147483647) (b3 : z3_37 = -1 ∨ (0 ≤ z3_37 ∧ z3_37 ≤ 36524)) (lsx : LSx (KG g p0) O (g (p0 + 1)) x1 x2 z3_37 0) (H : Heap) (locs : List Loc) (ls : Array Slot) (hw : Wd D A s.heap L0 f0 H locs) (hl : lv_has ls 8 [(0, .ref a0), (1, .int (iI x1)), (2, .int (iI x2)), (3, .int (iI z3_37))]), W p l e ({ frames := 4, cells := 0, slots := 0, locals := 90 } : Room) s m ([.ref a0, .int (iI x1), .int (iI x2)] : List Value).toArray below meth c H locs (0 + 0 + 0) (0 + 0 + 0) (MQ below (Qi D (tq cy) L0 f0 s.heap.size (fun (r : Int) (L1 : List Nat) (f1 : Nat → va_E) => L0 = L1 ∧ GI cy L0 f1 ∧ Eh cy f0 f1 ∧ (Sk (Oc g p0 O) x1 x2 (fI f1 a0 13) (fI f1 a0 14) ∧ ((r = 1 ∧ fI f1 a0 14 ≠ -1) ∨ (r = 0 ∧ fI f1 a0 14 = -1))))) ([.ref a0, .int (iI x1), .int (iI x2)] : List Value).toArray s 0 0 A) (F0 m 37 ls []) := by
    intro z3_37 lz3_37 uz3_37 b3 lsx H locs ls hw hl
    refine q_iconst hx hb dX0_seek_37 ?_
    refine lv_istore (lv' := [(4, .int (iI 0)), (0, .ref a0), (1, .int (iI x1)), (2, .int (iI x2)), (3, .int (iI z3_37))]) hx hb dX0_seek_38 hl (by decide) rfl (fun ls hl => ?_)
    have J40 : ∀ (n40 : Nat) (y3_40 : Int) (ly3_40 : -2147483648 ≤ y3_40) (uy3_40 : y3_40 ≤ 2147483647) (y4_40 : Int) (ly4_40 : -2147483648 ≤ y4_40) (uy4_40 : y4_40 ≤ 2147483647) (i1 : 0 ≤ y4_40) (b5 : y3_40 = -1 ∨ (0 ≤ y3_40 ∧ y3_40 ≤ 36524)) (lsx : LSx (KG g p0) O (g (p0 + 1)) x1 x2 y3_40 y4_40) (hn40 : ((2147483647 : Int) - y4_40).toNat < n40) (H : Heap) (locs : List Loc) (ls : Array Slot) (hw : Wd D A s.heap L0 f0 H locs) (hl : lv_has ls 8 [(0, .ref a0), (1, .int (iI x1)), (2, .int (iI x2)), (3, .int (iI y3_40)), (4, .int (iI y4_40))]), W p l e ({ frames := 4, cells := 0, slots := 0, locals := 90 } : Room) s m ([.ref a0, .int (iI x1), .int (iI x2)] : List Value).toArray below meth c H locs (0 + 0 + 0) (0 + 0 + 0) (MQ below (Qi D (tq cy) L0 f0 s.heap.size (fun (r : Int) (L1 : List Nat) (f1 : Nat → va_E) => L0 = L1 ∧ GI cy L0 f1 ∧ Eh cy f0 f1 ∧ (Sk (Oc g p0 O) x1 x2 (fI f1 a0 13) (fI f1 a0 14) ∧ ((r = 1 ∧ fI f1 a0 14 ≠ -1) ∨ (r = 0 ∧ fI f1 a0 14 = -1))))) ([.ref a0, .int (iI x1), .int (iI x2)] : List Value).toArray s 0 0 A) (F0 m 40 ls []) := by
      intro n40
      induction n40 with
      | zero => intro y3_40 ly3_40 uy3_40 y4_40 ly4_40 uy4_40 i1 b5 lsx hn40; exact absurd hn40 (Nat.not_lt_zero _)
      | succ n40 ih40 =>
        intro y3_40 ly3_40 uy3_40 y4_40 ly4_40 uy4_40 i1 b5 lsx hn40 H locs ls hw hl
        refine lv_iload hx hb dX0_seek_40 (lv_at hl 4 rfl) ?_
        refine lv_aload_n hx hb dX0_seek_42 rfl (lv_at hl 0 rfl) ?_
        refine q_geti (ci := 0) (C := RX0) (T := TX0) (N := 15) hx hb hts (fun w h => List.mem_cons_of_mem _ (mfX00 w h)) hown hK hw m_a0 o_a0 rfl 10 (by decide) (hts _ (List.mem_cons_of_mem _ (mr14 _ (List.mem_of_getElem? (i := 9) rfl)))) (fun _ h => h) rfl dX0_seek_43 (fun x_3 lx_3 ux_3 ex_3 => ?_)
        have bx_3 : 0 ≤ x_3 ∧ x_3 ≤ 16 := by rw [ex_3]; exact hg.1 _ m_a0 0 10 o_a0
        have J77 : ∀ (b4 : y3_40 = -1 ∨ (0 ≤ y3_40 ∧ y3_40 ≤ 36524)) (rz : RSx (KG g p0) O (g (p0 + 1)) x1 x2 y3_40) (H : Heap) (locs : List Loc) (ls : Array Slot) (hw : Wd D A s.heap L0 f0 H locs) (hl : lv_has ls 8 [(0, .ref a0), (1, .int (iI x1)), (2, .int (iI x2)), (3, .int (iI y3_40))]), W p l e ({ frames := 4, cells := 0, slots := 0, locals := 90 } : Room) s m ([.ref a0, .int (iI x1), .int (iI x2)] : List Value).toArray below meth c H locs (0 + 0 + 0) (0 + 0 + 0) (MQ below (Qi D (tq cy) L0 f0 s.heap.size (fun (r : Int) (L1 : List Nat) (f1 : Nat → va_E) => L0 = L1 ∧ GI cy L0 f1 ∧ Eh cy f0 f1 ∧ (Sk (Oc g p0 O) x1 x2 (fI f1 a0 13) (fI f1 a0 14) ∧ ((r = 1 ∧ fI f1 a0 14 ≠ -1) ∨ (r = 0 ∧ fI f1 a0 14 = -1))))) ([.ref a0, .int (iI x1), .int (iI x2)] : List Value).toArray s 0 0 A) (F0 m 77 ls []) := by
          intro b4 rz H locs ls hw hl
          refine lv_aload_n hx hb dX0_seek_77 rfl (lv_at hl 0 rfl) ?_
          refine lv_iload_n hx hb dX0_seek_78 rfl (lv_at hl 3 rfl) ?_
          refine q_puti (ci := 0) (C := RX0) (T := TX0) (N := 15) hx hb hts (fun w h => List.mem_cons_of_mem _ (mfX00 w h)) hown hK hw m_a0 o_a0 rfl 14 (by decide) (hts _ (List.mem_cons_of_mem _ (mr29 _ (List.mem_of_getElem? (i := 11) rfl)))) (fun _ h => h) tyX0 tyX0_ok nmX0 rfl (ty := .int) (by decide +kernel) rfl rfl dX0_seek_79 (fun H locs hw => ?_)
          have oo := o_a0
          obtain ⟨f_4, ef_4⟩ : ∃ g : Nat → va_E, g = pU f0 a0 14 (.int (iI y3_40)) := ⟨_, rfl⟩
          have hX : Eh cy f0 f_4 := by rw [ef_4]; exact Eh_pU oo rfl rfl (by decide)
          have hg : GI cy L0 f_4 := by rw [ef_4]; exact hg.putI oo rfl ⟨ly3_40, uy3_40⟩ trivial
          rw [← ef_4] at hw
          have hE := hE.trans hX
          have o_a0 := hX.1.1.1 _ _ o_a0
          have t_a0_13_f_4 : fI f_4 a0 13 = fI f0 a0 13 := by rw [ef_4]; exact fI_pU (Or.inr (by decide))
          have vf_4 : fI f_4 a0 14 = y3_40 := by rw [ef_4]; exact fI_pU_self oo rfl ⟨ly3_40, uy3_40⟩
          have em1 : fI f_4 a0 1 = g (p0 + 1) := (fI_W (hE.2.1 a0 1 (by decide) (by decide))).trans em
          have v14 := vf_4
          refine lv_aload_n hx hb dX0_seek_82 rfl (lv_at hl 0 rfl) ?_
          refine lv_iload_n hx hb dX0_seek_83 rfl (lv_at hl 3 rfl) ?_
          refine q_iconst hx hb dX0_seek_84 ?_
          have J98 : ∀ (w0_98 : Int) (lw0_98 : -2147483648 ≤ w0_98) (uw0_98 : w0_98 ≤ 2147483647) (k98 : (w0_98 = 2147483647 ∧ y3_40 = -1) ∨ (w0_98 = 1440 * y3_40 + g (p0 + 1) ∧ y3_40 ≠ -1)) (H : Heap) (locs : List Loc) (ls : Array Slot) (hw : Wd D A s.heap L0 f_4 H locs) (hl : lv_has ls 8 [(0, .ref a0), (1, .int (iI x1)), (2, .int (iI x2))]), W p l e ({ frames := 4, cells := 0, slots := 0, locals := 90 } : Room) s m ([.ref a0, .int (iI x1), .int (iI x2)] : List Value).toArray below meth c H locs (0 + 0 + 0) (0 + 0 + 0) (MQ below (Qi D (tq cy) L0 f0 s.heap.size (fun (r : Int) (L1 : List Nat) (f1 : Nat → va_E) => L0 = L1 ∧ GI cy L0 f1 ∧ Eh cy f0 f1 ∧ (Sk (Oc g p0 O) x1 x2 (fI f1 a0 13) (fI f1 a0 14) ∧ ((r = 1 ∧ fI f1 a0 14 ≠ -1) ∨ (r = 0 ∧ fI f1 a0 14 = -1))))) ([.ref a0, .int (iI x1), .int (iI x2)] : List Value).toArray s 0 0 A) (F0 m 98 ls [.int (iI w0_98), .ref a0]) := by
            intro w0_98 lw0_98 uw0_98 k98 H locs ls hw hl
            refine q_puti (ci := 0) (C := RX0) (T := TX0) (N := 15) hx hb hts (fun w h => List.mem_cons_of_mem _ (mfX00 w h)) hown hK hw m_a0 o_a0 rfl 13 (by decide) (hts _ (List.mem_cons_of_mem _ (mr29 _ (List.mem_of_getElem? (i := 13) rfl)))) (fun _ h => h) tyX0 tyX0_ok nmX0 rfl (ty := .int) (by decide +kernel) rfl rfl dX0_seek_98 (fun H locs hw => ?_)
            have oo := o_a0
            obtain ⟨f_5, ef_5⟩ : ∃ g : Nat → va_E, g = pU f_4 a0 13 (.int (iI w0_98)) := ⟨_, rfl⟩
            have hX : Eh cy f_4 f_5 := by rw [ef_5]; exact Eh_pU oo rfl rfl (by decide)
            have hg : GI cy L0 f_5 := by rw [ef_5]; exact hg.putI oo rfl ⟨lw0_98, uw0_98⟩ trivial
            rw [← ef_5] at hw
            have hE := hE.trans hX
            have o_a0 := hX.1.1.1 _ _ o_a0
            have t_a0_14_f_5 : fI f_5 a0 14 = fI f_4 a0 14 := by rw [ef_5]; exact fI_pU (Or.inr (by decide))
            have vf_5 : fI f_5 a0 13 = w0_98 := by rw [ef_5]; exact fI_pU_self oo rfl ⟨lw0_98, uw0_98⟩
            have sk0 : Sk (PQ (Q0 (KG g p0) O (g (p0 + 1))) (aI f0 (TA f0 a0)) (aI f0 (KA f0 a0)) 0) x1 x2 (fI f_5 a0 13) (fI f_5 a0 14) := by rw [vf_5, t_a0_14_f_5, v14]; exact (rz.sk hrq k98).cg (fun t k => PQ.zero (by omega))
            refine q_iconst hx hb dX0_seek_101 ?_
            refine lv_istore (lv' := [(4, .int (iI 0)), (0, .ref a0), (1, .int (iI x1)), (2, .int (iI x2))]) hx hb dX0_seek_102 hl (by decide) rfl (fun ls hl => ?_)
            have J104 : ∀ (n104 : Nat) (y4_104 : Int) (ly4_104 : -2147483648 ≤ y4_104) (uy4_104 : y4_104 ≤ 2147483647) (L : List Nat) (fw104 : Nat → va_E) (hg : GI cy L0 fw104) (hE : Eh cy f0 fw104) (o_a0 : Ob fw104 a0 0) (i1 : 0 ≤ y4_104) (i2 : y4_104 ≤ fI f0 a0 10) (sk : Sk (PQ (Q0 (KG g p0) O (g (p0 + 1))) (aI f0 (TA f0 a0)) (aI f0 (KA f0 a0)) y4_104) x1 x2 (fI fw104 a0 13) (fI fw104 a0 14)) (hn104 : ((2147483647 : Int) - y4_104).toNat < n104) (H : Heap) (locs : List Loc) (ls : Array Slot) (hw : Wd D A s.heap L0 fw104 H locs) (hl : lv_has ls 8 [(0, .ref a0), (1, .int (iI x1)), (2, .int (iI x2)), (4, .int (iI y4_104))]), W p l e ({ frames := 4, cells := 0, slots := 0, locals := 90 } : Room) s m ([.ref a0, .int (iI x1), .int (iI x2)] : List Value).toArray below meth c H locs (0 + 0 + 0) (0 + 0 + 0) (MQ below (Qi D (tq cy) L0 f0 s.heap.size (fun (r : Int) (L1 : List Nat) (f1 : Nat → va_E) => L0 = L1 ∧ GI cy L0 f1 ∧ Eh cy f0 f1 ∧ (Sk (Oc g p0 O) x1 x2 (fI f1 a0 13) (fI f1 a0 14) ∧ ((r = 1 ∧ fI f1 a0 14 ≠ -1) ∨ (r = 0 ∧ fI f1 a0 14 = -1))))) ([.ref a0, .int (iI x1), .int (iI x2)] : List Value).toArray s 0 0 A) (F0 m 104 ls []) := by
              intro n104
              induction n104 with
              | zero => intro y4_104 ly4_104 uy4_104 L fw104 hg hE o_a0 i1 i2 sk hn104; exact absurd hn104 (Nat.not_lt_zero _)
              | succ n104 ih104 =>
                intro y4_104 ly4_104 uy4_104 L fw104 hg hE o_a0 i1 i2 sk hn104 H locs ls hw hl
                have KAf : KA fw104 a0 = KA f0 a0 := KA_W (hE.2.1 a0 11 (by decide) (by decide))
                have TAf : TA fw104 a0 = TA f0 a0 := TA_W (hE.2.1 a0 12 (by decide) (by decide))
                have n10 : fI fw104 a0 10 = fI f0 a0 10 := fI_W (hE.2.1 a0 10 (by decide) (by decide))
                have arr : ∀ (y : Nat) (j : Int), aI fw104 y j = aI f0 y j := hE.2.2.2.2
                refine lv_iload hx hb dX0_seek_104 (lv_at hl 3 rfl) ?_
                refine lv_aload_n hx hb dX0_seek_106 rfl (lv_at hl 0 rfl) ?_
                refine q_geti (ci := 0) (C := RX0) (T := TX0) (N := 15) hx hb hts (fun w h => List.mem_cons_of_mem _ (mfX00 w h)) hown hK hw m_a0 o_a0 rfl 10 (by decide) (hts _ (List.mem_cons_of_mem _ (mr14 _ (List.mem_of_getElem? (i := 9) rfl)))) (fun _ h => h) rfl dX0_seek_107 (fun x_6 lx_6 ux_6 ex_6 => ?_)
                have bx_6 : 0 ≤ x_6 ∧ x_6 ≤ 16 := by rw [ex_6]; exact hg.1 _ m_a0 0 10 o_a0
                refine q_icmp_ge (tgt := 212) hx hb dX0_seek_110 (by decide) ⟨ly4_104, uy4_104⟩ ⟨lx_6, ux_6⟩ (fun c110 => ?_) (fun c110 => ?_)
                · refine lv_aload_n hx hb dX0_seek_212 rfl (lv_at hl 0 rfl) ?_
                  refine q_geti (ci := 0) (C := RX0) (T := TX0) (N := 15) hx hb hts (fun w h => List.mem_cons_of_mem _ (mfX00 w h)) hown hK hw m_a0 o_a0 rfl 14 (by decide) (hts _ (List.mem_cons_of_mem _ (mr29 _ (List.mem_of_getElem? (i := 11) rfl)))) (fun _ h => h) rfl dX0_seek_213 (fun x_7 lx_7 ux_7 ex_7 => ?_)
                  refine q_iconst hx hb dX0_seek_216 ?_
                  refine q_icmp_eq (tgt := 224) hx hb dX0_seek_217 (by decide) ⟨lx_7, ux_7⟩ ⟨by decide, by decide⟩ (fun c217 => ?_) (fun c217 => ?_)
                  · refine q_iconst hx hb dX0_seek_224 ?_
                    exact q_ret_z hx hb hr hlocks hK hAe hw (by omega) (Nat.le_of_ble_eq_true rfl) (Nat.le_of_ble_eq_true rfl) dX0_seek_225 (by exact ⟨rfl, hg, hE, sk.oc od (by omega), by omega⟩)
                  · refine q_iconst hx hb dX0_seek_220 ?_
                    refine lv_goto (tgt := 225) hx hb dX0_seek_221 (by decide) ?_
                    exact q_ret_z hx hb hr hlocks hK hAe hw (by omega) (Nat.le_of_ble_eq_true rfl) (Nat.le_of_ble_eq_true rfl) dX0_seek_225 (by exact ⟨rfl, hg, hE, sk.oc od (by omega), by omega⟩)
                · refine lv_aload_n hx hb dX0_seek_113 rfl (lv_at hl 0 rfl) ?_
                  obtain ⟨r_8, er_8, m_r_8, o_r_8⟩ := (show ∃ r, fR fw104 a0 12 = some r ∧ r ∈ L0 ∧ ArI fw104 r cy.2.1 16 from hg.2.1 _ m_a0 0 12 o_a0)
                  refine q_getr (ci := 0) (C := RX0) (T := TX0) (N := 15) hx hb hts (fun w h => List.mem_cons_of_mem _ (mfX00 w h)) hown hK hw m_a0 o_a0 rfl 12 (by decide) (hts _ (List.mem_cons_of_mem _ (mr3 _ (List.mem_of_getElem? (i := 3) rfl)))) (fun _ h => h) rfl er_8 dX0_seek_114 ?_
                  have k114 := TA_e er_8
                  refine lv_iload hx hb dX0_seek_117 (lv_at hl 3 rfl) ?_
                  refine q_iald hx hb hK hw m_r_8 1 o_r_8 rfl ⟨ly4_104, uy4_104⟩ (by omega) (by omega) dX0_seek_119 (fun x_9 lx_9 ux_9 ex_9 => ?_)
                  have h119 : x_9 = aI f0 (TA f0 a0) y4_104 := ex_9.trans (by rw [k114, TAf, arr])
                  have t9 := tb y4_104 (by omega) (by omega)
                  refine lv_istore (lv' := [(5, .int (iI x_9)), (0, .ref a0), (1, .int (iI x1)), (2, .int (iI x2)), (4, .int (iI y4_104))]) hx hb dX0_seek_120 hl (by decide) rfl (fun ls hl => ?_)
                  refine lv_aload_n hx hb dX0_seek_122 rfl (lv_at hl 1 rfl) ?_
                  obtain ⟨r_10, er_10, m_r_10, o_r_10⟩ := (show ∃ r, fR fw104 a0 11 = some r ∧ r ∈ L0 ∧ ArI fw104 r cy.2.1 16 from hg.2.1 _ m_a0 0 11 o_a0)
                  refine q_getr (ci := 0) (C := RX0) (T := TX0) (N := 15) hx hb hts (fun w h => List.mem_cons_of_mem _ (mfX00 w h)) hown hK hw m_a0 o_a0 rfl 11 (by decide) (hts _ (List.mem_cons_of_mem _ (mr3 _ (List.mem_of_getElem? (i := 2) rfl)))) (fun _ h => h) rfl er_10 dX0_seek_123 ?_
                  have k123 := KA_e er_10
                  refine lv_iload hx hb dX0_seek_126 (lv_at hl 4 rfl) ?_
                  refine q_iald hx hb hK hw m_r_10 1 o_r_10 rfl ⟨ly4_104, uy4_104⟩ (by omega) (by omega) dX0_seek_128 (fun x_11 lx_11 ux_11 ex_11 => ?_)
                  have h128 : x_11 = aI f0 (KA f0 a0) y4_104 := ex_11.trans (by rw [k123, KAf, arr])
                  refine lv_istore (lv' := [(6, .int (iI x_11)), (5, .int (iI x_9)), (0, .ref a0), (1, .int (iI x1)), (2, .int (iI x2)), (4, .int (iI y4_104))]) hx hb dX0_seek_129 hl (by decide) rfl (fun ls hl => ?_)
                  refine lv_iload hx hb dX0_seek_131 (lv_at hl 1 rfl) ?_
                  refine lv_iload_n hx hb dX0_seek_133 rfl (lv_at hl 3 rfl) ?_
                  have J149 : ∀ (k149 : x1 < x_9 ∨ (x_9 = x1 ∧ x2 ≤ x_11)) (H : Heap) (locs : List Loc) (ls : Array Slot) (hw : Wd D A s.heap L0 fw104 H locs) (hl : lv_has ls 8 [(0, .ref a0), (1, .int (iI x1)), (2, .int (iI x2)), (4, .int (iI y4_104)), (5, .int (iI x_9)), (6, .int (iI x_11))]), W p l e ({ frames := 4, cells := 0, slots := 0, locals := 90 } : Room) s m ([.ref a0, .int (iI x1), .int (iI x2)] : List Value).toArray below meth c H locs (0 + 0 + 0) (0 + 0 + 0) (MQ below (Qi D (tq cy) L0 f0 s.heap.size (fun (r : Int) (L1 : List Nat) (f1 : Nat → va_E) => L0 = L1 ∧ GI cy L0 f1 ∧ Eh cy f0 f1 ∧ (Sk (Oc g p0 O) x1 x2 (fI f1 a0 13) (fI f1 a0 14) ∧ ((r = 1 ∧ fI f1 a0 14 ≠ -1) ∨ (r = 0 ∧ fI f1 a0 14 = -1))))) ([.ref a0, .int (iI x1), .int (iI x2)] : List Value).toArray s 0 0 A) (F0 m 149 ls []) := by
                    intro k149 H locs ls hw hl
                    refine q_iconst hx hb dX0_seek_149 ?_
                    refine lv_goto (tgt := 154) hx hb dX0_seek_150 (by decide) ?_
                    refine lv_istore (lv' := [(7, .int (iI 1)), (0, .ref a0), (1, .int (iI x1)), (2, .int (iI x2)), (4, .int (iI y4_104)), (5, .int (iI x_9)), (6, .int (iI x_11))]) hx hb dX0_seek_154 hl (by decide) rfl (fun ls hl => ?_)
                    refine lv_iload hx hb dX0_seek_156 (lv_at hl 5 rfl) ?_
                    refine q_iconst hx hb dX0_seek_158 ?_
                    have J206 : ∀ (L : List Nat) (fw206 : Nat → va_E) (hg : GI cy L0 fw206) (hE : Eh cy f0 fw206) (o_a0 : Ob fw206 a0 0) (sk1 : Sk (PQ (Q0 (KG g p0) O (g (p0 + 1))) (aI f0 (TA f0 a0)) (aI f0 (KA f0 a0)) (y4_104 + 1)) x1 x2 (fI fw206 a0 13) (fI fw206 a0 14)) (H : Heap) (locs : List Loc) (ls : Array Slot) (hw : Wd D A s.heap L0 fw206 H locs) (hl : lv_has ls 8 [(0, .ref a0), (1, .int (iI x1)), (2, .int (iI x2)), (4, .int (iI y4_104))]), W p l e ({ frames := 4, cells := 0, slots := 0, locals := 90 } : Room) s m ([.ref a0, .int (iI x1), .int (iI x2)] : List Value).toArray below meth c H locs (0 + 0 + 0) (0 + 0 + 0) (MQ below (Qi D (tq cy) L0 f0 s.heap.size (fun (r : Int) (L1 : List Nat) (f1 : Nat → va_E) => L0 = L1 ∧ GI cy L0 f1 ∧ Eh cy f0 f1 ∧ (Sk (Oc g p0 O) x1 x2 (fI f1 a0 13) (fI f1 a0 14) ∧ ((r = 1 ∧ fI f1 a0 14 ≠ -1) ∨ (r = 0 ∧ fI f1 a0 14 = -1))))) ([.ref a0, .int (iI x1), .int (iI x2)] : List Value).toArray s 0 0 A) (F0 m 206 ls []) := by
                      intro L fw206 hg hE o_a0 sk1 H locs ls hw hl
                      obtain ⟨x_12, lx_12, ux_12, hx_12, ex_12⟩ := q_inc y4_104 (1)
                      try (replace ex_12 : x_12 = y4_104 + (1) := by omega)
                      refine lv_iinc (v := iI x_12) (lv' := [(4, .int (iI x_12)), (0, .ref a0), (1, .int (iI x1)), (2, .int (iI x2))]) hx hb dX0_seek_206 hl (k := 3) rfl hx_12 (by decide) rfl (fun ls hl => ?_)
                      refine lv_goto (tgt := 104) hx hb dX0_seek_209 (by decide) ?_
                      exact ih104 x_12 lx_12 ux_12 L0 fw206 hg hE o_a0 (by omega) (by omega) (by first | exact sk0 | exact sk1.to (by omega) | fail "none") (by omega) _ _ _ hw (lv_sub hl [1, 2, 3, 0] rfl)
                    refine q_icmp_eq (tgt := 206) hx hb dX0_seek_159 (by decide) ⟨lx_9, ux_9⟩ ⟨by decide, by decide⟩ (fun c159 => ?_) (fun c159 => ?_)
                    · exact J206 L0 fw104 hg hE o_a0 (by first | exact sk.no h119 h128 rfl (by omega) (by omega) (by omega) | exact sk2 | fail "none") _ _ _ hw (lv_sub hl [1, 2, 3, 4] rfl)
                    · refine lv_iload hx hb dX0_seek_162 (lv_at hl 0 rfl) ?_
                      refine q_if_eq (tgt := 206) hx hb dX0_seek_164 (by decide) ⟨by decide, by decide⟩ (fun c164 => ?_) (fun c164 => ?_)
                      · exact J206 L0 fw104 hg hE o_a0 (by first | exact sk.no h119 h128 rfl (by omega) (by omega) (by omega) | exact sk2 | fail "none") _ _ _ hw (lv_sub hl [1, 2, 3, 4] rfl)
                      · refine lv_iload hx hb dX0_seek_167 (lv_at hl 5 rfl) ?_
                        refine lv_aload_n hx hb dX0_seek_169 rfl (lv_at hl 1 rfl) ?_
                        refine q_geti (ci := 0) (C := RX0) (T := TX0) (N := 15) hx hb hts (fun w h => List.mem_cons_of_mem _ (mfX00 w h)) hown hK hw m_a0 o_a0 rfl 13 (by decide) (hts _ (List.mem_cons_of_mem _ (mr29 _ (List.mem_of_getElem? (i := 13) rfl)))) (fun _ h => h) rfl dX0_seek_170 (fun x_13 lx_13 ux_13 ex_13 => ?_)
                        have J194 : ∀ (k194 : x_9 < fI fw104 a0 13 ∨ (x_9 = fI fw104 a0 13 ∧ x_11 < fI fw104 a0 14)) (H : Heap) (locs : List Loc) (ls : Array Slot) (hw : Wd D A s.heap L0 fw104 H locs) (hl : lv_has ls 8 [(0, .ref a0), (1, .int (iI x1)), (2, .int (iI x2)), (4, .int (iI y4_104)), (5, .int (iI x_9)), (6, .int (iI x_11))]), W p l e ({ frames := 4, cells := 0, slots := 0, locals := 90 } : Room) s m ([.ref a0, .int (iI x1), .int (iI x2)] : List Value).toArray below meth c H locs (0 + 0 + 0) (0 + 0 + 0) (MQ below (Qi D (tq cy) L0 f0 s.heap.size (fun (r : Int) (L1 : List Nat) (f1 : Nat → va_E) => L0 = L1 ∧ GI cy L0 f1 ∧ Eh cy f0 f1 ∧ (Sk (Oc g p0 O) x1 x2 (fI f1 a0 13) (fI f1 a0 14) ∧ ((r = 1 ∧ fI f1 a0 14 ≠ -1) ∨ (r = 0 ∧ fI f1 a0 14 = -1))))) ([.ref a0, .int (iI x1), .int (iI x2)] : List Value).toArray s 0 0 A) (F0 m 194 ls []) := by
                          intro k194 H locs ls hw hl
                          refine lv_aload_n hx hb dX0_seek_194 rfl (lv_at hl 0 rfl) ?_
                          refine lv_iload hx hb dX0_seek_195 (lv_at hl 4 rfl) ?_
                          refine q_puti (ci := 0) (C := RX0) (T := TX0) (N := 15) hx hb hts (fun w h => List.mem_cons_of_mem _ (mfX00 w h)) hown hK hw m_a0 o_a0 rfl 13 (by decide) (hts _ (List.mem_cons_of_mem _ (mr29 _ (List.mem_of_getElem? (i := 13) rfl)))) (fun _ h => h) tyX0 tyX0_ok nmX0 rfl (ty := .int) (by decide +kernel) rfl rfl dX0_seek_197 (fun H locs hw => ?_)
                          have oo := o_a0
                          obtain ⟨f_14, ef_14⟩ : ∃ g : Nat → va_E, g = pU fw104 a0 13 (.int (iI x_9)) := ⟨_, rfl⟩
                          have hX : Eh cy fw104 f_14 := by rw [ef_14]; exact Eh_pU oo rfl rfl (by decide)
                          have hg : GI cy L0 f_14 := by rw [ef_14]; exact hg.putI oo rfl ⟨lx_9, ux_9⟩ trivial
                          rw [← ef_14] at hw
                          have hE := hE.trans hX
                          have o_a0 := hX.1.1.1 _ _ o_a0
                          have t_a0_14_f_14 : fI f_14 a0 14 = fI fw104 a0 14 := by rw [ef_14]; exact fI_pU (Or.inr (by decide))
                          have vf_14 : fI f_14 a0 13 = x_9 := by rw [ef_14]; exact fI_pU_self oo rfl ⟨lx_9, ux_9⟩
                          have v13b := vf_14
                          refine lv_aload_n hx hb dX0_seek_200 rfl (lv_at hl 0 rfl) ?_
                          refine lv_iload hx hb dX0_seek_201 (lv_at hl 5 rfl) ?_
                          refine q_puti (ci := 0) (C := RX0) (T := TX0) (N := 15) hx hb hts (fun w h => List.mem_cons_of_mem _ (mfX00 w h)) hown hK hw m_a0 o_a0 rfl 14 (by decide) (hts _ (List.mem_cons_of_mem _ (mr29 _ (List.mem_of_getElem? (i := 11) rfl)))) (fun _ h => h) tyX0 tyX0_ok nmX0 rfl (ty := .int) (by decide +kernel) rfl rfl dX0_seek_203 (fun H locs hw => ?_)
                          have oo := o_a0
                          obtain ⟨f_15, ef_15⟩ : ∃ g : Nat → va_E, g = pU f_14 a0 14 (.int (iI x_11)) := ⟨_, rfl⟩
                          have hX : Eh cy f_14 f_15 := by rw [ef_15]; exact Eh_pU oo rfl rfl (by decide)
                          have hg : GI cy L0 f_15 := by rw [ef_15]; exact hg.putI oo rfl ⟨lx_11, ux_11⟩ trivial
                          rw [← ef_15] at hw
                          have hE := hE.trans hX
                          have o_a0 := hX.1.1.1 _ _ o_a0
                          have t_a0_13_f_15 : fI f_15 a0 13 = fI f_14 a0 13 := by rw [ef_15]; exact fI_pU (Or.inr (by decide))
                          have vf_15 : fI f_15 a0 14 = x_11 := by rw [ef_15]; exact fI_pU_self oo rfl ⟨lx_11, ux_11⟩
                          have sk2 : Sk (PQ (Q0 (KG g p0) O (g (p0 + 1))) (aI f0 (TA f0 a0)) (aI f0 (KA f0 a0)) (y4_104 + 1)) x1 x2 (fI f_15 a0 13) (fI f_15 a0 14) := by rw [vf_15, t_a0_13_f_15, v13b]; exact sk.yes h119 h128 rfl (by omega) (by omega) (by omega) k194
                          exact J206 L0 f_15 hg hE o_a0 (by first | exact sk.no h119 h128 rfl (by omega) (by omega) (by omega) | exact sk2 | fail "none") _ _ _ hw (lv_sub hl [0, 1, 2, 3] rfl)
                        refine q_icmp_lt (tgt := 194) hx hb dX0_seek_173 (by decide) ⟨lx_9, ux_9⟩ ⟨lx_13, ux_13⟩ (fun c173 => ?_) (fun c173 => ?_)
                        · exact J194 (by omega) _ _ _ hw (lv_sub hl [1, 2, 3, 4, 5, 6] rfl)
                        · refine lv_iload hx hb dX0_seek_176 (lv_at hl 5 rfl) ?_
                          refine lv_aload_n hx hb dX0_seek_178 rfl (lv_at hl 1 rfl) ?_
                          refine q_geti (ci := 0) (C := RX0) (T := TX0) (N := 15) hx hb hts (fun w h => List.mem_cons_of_mem _ (mfX00 w h)) hown hK hw m_a0 o_a0 rfl 13 (by decide) (hts _ (List.mem_cons_of_mem _ (mr29 _ (List.mem_of_getElem? (i := 13) rfl)))) (fun _ h => h) rfl dX0_seek_179 (fun x_16 lx_16 ux_16 ex_16 => ?_)
                          refine q_icmp_ne (tgt := 206) hx hb dX0_seek_182 (by decide) ⟨lx_9, ux_9⟩ ⟨lx_16, ux_16⟩ (fun c182 => ?_) (fun c182 => ?_)
                          · exact J206 L0 fw104 hg hE o_a0 (by first | exact sk.no h119 h128 rfl (by omega) (by omega) (by omega) | exact sk2 | fail "none") _ _ _ hw (lv_sub hl [1, 2, 3, 4] rfl)
                          · refine lv_iload hx hb dX0_seek_185 (lv_at hl 6 rfl) ?_
                            refine lv_aload_n hx hb dX0_seek_187 rfl (lv_at hl 1 rfl) ?_
                            refine q_geti (ci := 0) (C := RX0) (T := TX0) (N := 15) hx hb hts (fun w h => List.mem_cons_of_mem _ (mfX00 w h)) hown hK hw m_a0 o_a0 rfl 14 (by decide) (hts _ (List.mem_cons_of_mem _ (mr29 _ (List.mem_of_getElem? (i := 11) rfl)))) (fun _ h => h) rfl dX0_seek_188 (fun x_17 lx_17 ux_17 ex_17 => ?_)
                            refine q_icmp_ge (tgt := 206) hx hb dX0_seek_191 (by decide) ⟨lx_11, ux_11⟩ ⟨lx_17, ux_17⟩ (fun c191 => ?_) (fun c191 => ?_)
                            · exact J206 L0 fw104 hg hE o_a0 (by first | exact sk.no h119 h128 rfl (by omega) (by omega) (by omega) | exact sk2 | fail "none") _ _ _ hw (lv_sub hl [1, 2, 3, 4] rfl)
                            · exact J194 (by omega) _ _ _ hw (lv_sub hl [1, 2, 3, 4, 5, 6] rfl)
                  have J154 : ∀ (w0_154 : Int) (lw0_154 : -2147483648 ≤ w0_154) (uw0_154 : w0_154 ≤ 2147483647) (k154 : (w0_154 = 1 ∧ (x1 < x_9 ∨ (x_9 = x1 ∧ x2 ≤ x_11))) ∨ (w0_154 = 0 ∧ (x_9 < x1 ∨ (x_9 = x1 ∧ x_11 < x2)))) (H : Heap) (locs : List Loc) (ls : Array Slot) (hw : Wd D A s.heap L0 fw104 H locs) (hl : lv_has ls 8 [(0, .ref a0), (1, .int (iI x1)), (2, .int (iI x2)), (4, .int (iI y4_104)), (5, .int (iI x_9)), (6, .int (iI x_11))]), W p l e ({ frames := 4, cells := 0, slots := 0, locals := 90 } : Room) s m ([.ref a0, .int (iI x1), .int (iI x2)] : List Value).toArray below meth c H locs (0 + 0 + 0) (0 + 0 + 0) (MQ below (Qi D (tq cy) L0 f0 s.heap.size (fun (r : Int) (L1 : List Nat) (f1 : Nat → va_E) => L0 = L1 ∧ GI cy L0 f1 ∧ Eh cy f0 f1 ∧ (Sk (Oc g p0 O) x1 x2 (fI f1 a0 13) (fI f1 a0 14) ∧ ((r = 1 ∧ fI f1 a0 14 ≠ -1) ∨ (r = 0 ∧ fI f1 a0 14 = -1))))) ([.ref a0, .int (iI x1), .int (iI x2)] : List Value).toArray s 0 0 A) (F0 m 154 ls [.int (iI w0_154)]) := by
                    intro w0_154 lw0_154 uw0_154 k154 H locs ls hw hl
                    refine lv_istore (lv' := [(7, .int (iI w0_154)), (0, .ref a0), (1, .int (iI x1)), (2, .int (iI x2)), (4, .int (iI y4_104)), (5, .int (iI x_9)), (6, .int (iI x_11))]) hx hb dX0_seek_154 hl (by decide) rfl (fun ls hl => ?_)
                    refine lv_iload hx hb dX0_seek_156 (lv_at hl 5 rfl) ?_
                    refine q_iconst hx hb dX0_seek_158 ?_
                    have J206 : ∀ (L : List Nat) (fw206 : Nat → va_E) (hg : GI cy L0 fw206) (hE : Eh cy f0 fw206) (o_a0 : Ob fw206 a0 0) (sk1 : Sk (PQ (Q0 (KG g p0) O (g (p0 + 1))) (aI f0 (TA f0 a0)) (aI f0 (KA f0 a0)) (y4_104 + 1)) x1 x2 (fI fw206 a0 13) (fI fw206 a0 14)) (H : Heap) (locs : List Loc) (ls : Array Slot) (hw : Wd D A s.heap L0 fw206 H locs) (hl : lv_has ls 8 [(0, .ref a0), (1, .int (iI x1)), (2, .int (iI x2)), (4, .int (iI y4_104))]), W p l e ({ frames := 4, cells := 0, slots := 0, locals := 90 } : Room) s m ([.ref a0, .int (iI x1), .int (iI x2)] : List Value).toArray below meth c H locs (0 + 0 + 0) (0 + 0 + 0) (MQ below (Qi D (tq cy) L0 f0 s.heap.size (fun (r : Int) (L1 : List Nat) (f1 : Nat → va_E) => L0 = L1 ∧ GI cy L0 f1 ∧ Eh cy f0 f1 ∧ (Sk (Oc g p0 O) x1 x2 (fI f1 a0 13) (fI f1 a0 14) ∧ ((r = 1 ∧ fI f1 a0 14 ≠ -1) ∨ (r = 0 ∧ fI f1 a0 14 = -1))))) ([.ref a0, .int (iI x1), .int (iI x2)] : List Value).toArray s 0 0 A) (F0 m 206 ls []) := by
                      intro L fw206 hg hE o_a0 sk1 H locs ls hw hl
                      obtain ⟨x_18, lx_18, ux_18, hx_18, ex_18⟩ := q_inc y4_104 (1)
                      try (replace ex_18 : x_18 = y4_104 + (1) := by omega)
                      refine lv_iinc (v := iI x_18) (lv' := [(4, .int (iI x_18)), (0, .ref a0), (1, .int (iI x1)), (2, .int (iI x2))]) hx hb dX0_seek_206 hl (k := 3) rfl hx_18 (by decide) rfl (fun ls hl => ?_)
                      refine lv_goto (tgt := 104) hx hb dX0_seek_209 (by decide) ?_
                      exact ih104 x_18 lx_18 ux_18 L0 fw206 hg hE o_a0 (by omega) (by omega) (by first | exact sk0 | exact sk1.to (by omega) | fail "none") (by omega) _ _ _ hw (lv_sub hl [1, 2, 3, 0] rfl)
                    refine q_icmp_eq (tgt := 206) hx hb dX0_seek_159 (by decide) ⟨lx_9, ux_9⟩ ⟨by decide, by decide⟩ (fun c159 => ?_) (fun c159 => ?_)
                    · exact J206 L0 fw104 hg hE o_a0 (by first | exact sk.no h119 h128 rfl (by omega) (by omega) (by omega) | exact sk2 | fail "none") _ _ _ hw (lv_sub hl [1, 2, 3, 4] rfl)
                    · refine lv_iload hx hb dX0_seek_162 (lv_at hl 0 rfl) ?_
                      refine q_if_eq (tgt := 206) hx hb dX0_seek_164 (by decide) ⟨lw0_154, uw0_154⟩ (fun c164 => ?_) (fun c164 => ?_)
                      · exact J206 L0 fw104 hg hE o_a0 (by first | exact sk.no h119 h128 rfl (by omega) (by omega) (by omega) | exact sk2 | fail "none") _ _ _ hw (lv_sub hl [1, 2, 3, 4] rfl)
                      · refine lv_iload hx hb dX0_seek_167 (lv_at hl 5 rfl) ?_
                        refine lv_aload_n hx hb dX0_seek_169 rfl (lv_at hl 1 rfl) ?_
                        refine q_geti (ci := 0) (C := RX0) (T := TX0) (N := 15) hx hb hts (fun w h => List.mem_cons_of_mem _ (mfX00 w h)) hown hK hw m_a0 o_a0 rfl 13 (by decide) (hts _ (List.mem_cons_of_mem _ (mr29 _ (List.mem_of_getElem? (i := 13) rfl)))) (fun _ h => h) rfl dX0_seek_170 (fun x_19 lx_19 ux_19 ex_19 => ?_)
                        have J194 : ∀ (k194 : x_9 < fI fw104 a0 13 ∨ (x_9 = fI fw104 a0 13 ∧ x_11 < fI fw104 a0 14)) (H : Heap) (locs : List Loc) (ls : Array Slot) (hw : Wd D A s.heap L0 fw104 H locs) (hl : lv_has ls 8 [(0, .ref a0), (1, .int (iI x1)), (2, .int (iI x2)), (4, .int (iI y4_104)), (5, .int (iI x_9)), (6, .int (iI x_11))]), W p l e ({ frames := 4, cells := 0, slots := 0, locals := 90 } : Room) s m ([.ref a0, .int (iI x1), .int (iI x2)] : List Value).toArray below meth c H locs (0 + 0 + 0) (0 + 0 + 0) (MQ below (Qi D (tq cy) L0 f0 s.heap.size (fun (r : Int) (L1 : List Nat) (f1 : Nat → va_E) => L0 = L1 ∧ GI cy L0 f1 ∧ Eh cy f0 f1 ∧ (Sk (Oc g p0 O) x1 x2 (fI f1 a0 13) (fI f1 a0 14) ∧ ((r = 1 ∧ fI f1 a0 14 ≠ -1) ∨ (r = 0 ∧ fI f1 a0 14 = -1))))) ([.ref a0, .int (iI x1), .int (iI x2)] : List Value).toArray s 0 0 A) (F0 m 194 ls []) := by
                          intro k194 H locs ls hw hl
                          refine lv_aload_n hx hb dX0_seek_194 rfl (lv_at hl 0 rfl) ?_
                          refine lv_iload hx hb dX0_seek_195 (lv_at hl 4 rfl) ?_
                          refine q_puti (ci := 0) (C := RX0) (T := TX0) (N := 15) hx hb hts (fun w h => List.mem_cons_of_mem _ (mfX00 w h)) hown hK hw m_a0 o_a0 rfl 13 (by decide) (hts _ (List.mem_cons_of_mem _ (mr29 _ (List.mem_of_getElem? (i := 13) rfl)))) (fun _ h => h) tyX0 tyX0_ok nmX0 rfl (ty := .int) (by decide +kernel) rfl rfl dX0_seek_197 (fun H locs hw => ?_)
                          have oo := o_a0
                          obtain ⟨f_20, ef_20⟩ : ∃ g : Nat → va_E, g = pU fw104 a0 13 (.int (iI x_9)) := ⟨_, rfl⟩
                          have hX : Eh cy fw104 f_20 := by rw [ef_20]; exact Eh_pU oo rfl rfl (by decide)
                          have hg : GI cy L0 f_20 := by rw [ef_20]; exact hg.putI oo rfl ⟨lx_9, ux_9⟩ trivial
                          rw [← ef_20] at hw
                          have hE := hE.trans hX
                          have o_a0 := hX.1.1.1 _ _ o_a0
                          have t_a0_14_f_20 : fI f_20 a0 14 = fI fw104 a0 14 := by rw [ef_20]; exact fI_pU (Or.inr (by decide))
                          have vf_20 : fI f_20 a0 13 = x_9 := by rw [ef_20]; exact fI_pU_self oo rfl ⟨lx_9, ux_9⟩
                          have v13b := vf_20
                          refine lv_aload_n hx hb dX0_seek_200 rfl (lv_at hl 0 rfl) ?_
                          refine lv_iload hx hb dX0_seek_201 (lv_at hl 5 rfl) ?_
                          refine q_puti (ci := 0) (C := RX0) (T := TX0) (N := 15) hx hb hts (fun w h => List.mem_cons_of_mem _ (mfX00 w h)) hown hK hw m_a0 o_a0 rfl 14 (by decide) (hts _ (List.mem_cons_of_mem _ (mr29 _ (List.mem_of_getElem? (i := 11) rfl)))) (fun _ h => h) tyX0 tyX0_ok nmX0 rfl (ty := .int) (by decide +kernel) rfl rfl dX0_seek_203 (fun H locs hw => ?_)
                          have oo := o_a0
                          obtain ⟨f_21, ef_21⟩ : ∃ g : Nat → va_E, g = pU f_20 a0 14 (.int (iI x_11)) := ⟨_, rfl⟩
                          have hX : Eh cy f_20 f_21 := by rw [ef_21]; exact Eh_pU oo rfl rfl (by decide)
                          have hg : GI cy L0 f_21 := by rw [ef_21]; exact hg.putI oo rfl ⟨lx_11, ux_11⟩ trivial
                          rw [← ef_21] at hw
                          have hE := hE.trans hX
                          have o_a0 := hX.1.1.1 _ _ o_a0
                          have t_a0_13_f_21 : fI f_21 a0 13 = fI f_20 a0 13 := by rw [ef_21]; exact fI_pU (Or.inr (by decide))
                          have vf_21 : fI f_21 a0 14 = x_11 := by rw [ef_21]; exact fI_pU_self oo rfl ⟨lx_11, ux_11⟩
                          have sk2 : Sk (PQ (Q0 (KG g p0) O (g (p0 + 1))) (aI f0 (TA f0 a0)) (aI f0 (KA f0 a0)) (y4_104 + 1)) x1 x2 (fI f_21 a0 13) (fI f_21 a0 14) := by rw [vf_21, t_a0_13_f_21, v13b]; exact sk.yes h119 h128 rfl (by omega) (by omega) (by omega) k194
                          exact J206 L0 f_21 hg hE o_a0 (by first | exact sk.no h119 h128 rfl (by omega) (by omega) (by omega) | exact sk2 | fail "none") _ _ _ hw (lv_sub hl [0, 1, 2, 3] rfl)
                        refine q_icmp_lt (tgt := 194) hx hb dX0_seek_173 (by decide) ⟨lx_9, ux_9⟩ ⟨lx_19, ux_19⟩ (fun c173 => ?_) (fun c173 => ?_)
                        · exact J194 (by omega) _ _ _ hw (lv_sub hl [1, 2, 3, 4, 5, 6] rfl)
                        · refine lv_iload hx hb dX0_seek_176 (lv_at hl 5 rfl) ?_
                          refine lv_aload_n hx hb dX0_seek_178 rfl (lv_at hl 1 rfl) ?_
                          refine q_geti (ci := 0) (C := RX0) (T := TX0) (N := 15) hx hb hts (fun w h => List.mem_cons_of_mem _ (mfX00 w h)) hown hK hw m_a0 o_a0 rfl 13 (by decide) (hts _ (List.mem_cons_of_mem _ (mr29 _ (List.mem_of_getElem? (i := 13) rfl)))) (fun _ h => h) rfl dX0_seek_179 (fun x_22 lx_22 ux_22 ex_22 => ?_)
                          refine q_icmp_ne (tgt := 206) hx hb dX0_seek_182 (by decide) ⟨lx_9, ux_9⟩ ⟨lx_22, ux_22⟩ (fun c182 => ?_) (fun c182 => ?_)
                          · exact J206 L0 fw104 hg hE o_a0 (by first | exact sk.no h119 h128 rfl (by omega) (by omega) (by omega) | exact sk2 | fail "none") _ _ _ hw (lv_sub hl [1, 2, 3, 4] rfl)
                          · refine lv_iload hx hb dX0_seek_185 (lv_at hl 6 rfl) ?_
                            refine lv_aload_n hx hb dX0_seek_187 rfl (lv_at hl 1 rfl) ?_
                            refine q_geti (ci := 0) (C := RX0) (T := TX0) (N := 15) hx hb hts (fun w h => List.mem_cons_of_mem _ (mfX00 w h)) hown hK hw m_a0 o_a0 rfl 14 (by decide) (hts _ (List.mem_cons_of_mem _ (mr29 _ (List.mem_of_getElem? (i := 11) rfl)))) (fun _ h => h) rfl dX0_seek_188 (fun x_23 lx_23 ux_23 ex_23 => ?_)
                            refine q_icmp_ge (tgt := 206) hx hb dX0_seek_191 (by decide) ⟨lx_11, ux_11⟩ ⟨lx_23, ux_23⟩ (fun c191 => ?_) (fun c191 => ?_)
                            · exact J206 L0 fw104 hg hE o_a0 (by first | exact sk.no h119 h128 rfl (by omega) (by omega) (by omega) | exact sk2 | fail "none") _ _ _ hw (lv_sub hl [1, 2, 3, 4] rfl)
                            · exact J194 (by omega) _ _ _ hw (lv_sub hl [1, 2, 3, 4, 5, 6] rfl)
                  refine q_icmp_gt (tgt := 149) hx hb dX0_seek_134 (by decide) ⟨lx_9, ux_9⟩ ⟨lx1, ux1⟩ (fun c134 => ?_) (fun c134 => ?_)
                  · exact J149 (by omega) _ _ _ hw (lv_sub hl [2, 3, 4, 5, 1, 0] rfl)
                  · refine lv_iload hx hb dX0_seek_137 (lv_at hl 1 rfl) ?_
                    refine lv_iload_n hx hb dX0_seek_139 rfl (lv_at hl 3 rfl) ?_
                    have J153 : ∀ (k153 : x_9 < x1 ∨ (x_9 = x1 ∧ x_11 < x2)) (H : Heap) (locs : List Loc) (ls : Array Slot) (hw : Wd D A s.heap L0 fw104 H locs) (hl : lv_has ls 8 [(0, .ref a0), (1, .int (iI x1)), (2, .int (iI x2)), (4, .int (iI y4_104)), (5, .int (iI x_9)), (6, .int (iI x_11))]), W p l e ({ frames := 4, cells := 0, slots := 0, locals := 90 } : Room) s m ([.ref a0, .int (iI x1), .int (iI x2)] : List Value).toArray below meth c H locs (0 + 0 + 0) (0 + 0 + 0) (MQ below (Qi D (tq cy) L0 f0 s.heap.size (fun (r : Int) (L1 : List Nat) (f1 : Nat → va_E) => L0 = L1 ∧ GI cy L0 f1 ∧ Eh cy f0 f1 ∧ (Sk (Oc g p0 O) x1 x2 (fI f1 a0 13) (fI f1 a0 14) ∧ ((r = 1 ∧ fI f1 a0 14 ≠ -1) ∨ (r = 0 ∧ fI f1 a0 14 = -1))))) ([.ref a0, .int (iI x1), .int (iI x2)] : List Value).toArray s 0 0 A) (F0 m 153 ls []) := by
                      intro k153 H locs ls hw hl
                      refine q_iconst hx hb dX0_seek_153 ?_
                      exact J154 0 (by decide) (by decide) (by omega) _ _ _ hw (lv_sub hl [0, 1, 2, 3, 4, 5] rfl)
                    refine q_icmp_ne (tgt := 153) hx hb dX0_seek_140 (by decide) ⟨lx_9, ux_9⟩ ⟨lx1, ux1⟩ (fun c140 => ?_) (fun c140 => ?_)
                    · exact J153 (by omega) _ _ _ hw (lv_sub hl [2, 3, 4, 5, 1, 0] rfl)
                    · refine lv_iload hx hb dX0_seek_143 (lv_at hl 0 rfl) ?_
                      refine lv_iload_n hx hb dX0_seek_145 rfl (lv_at hl 4 rfl) ?_
                      refine q_icmp_lt (tgt := 153) hx hb dX0_seek_146 (by decide) ⟨lx_11, ux_11⟩ ⟨lx2, ux2⟩ (fun c146 => ?_) (fun c146 => ?_)
                      · exact J153 (by omega) _ _ _ hw (lv_sub hl [2, 3, 4, 5, 1, 0] rfl)
                      · exact J149 (by omega) _ _ _ hw (lv_sub hl [2, 3, 4, 5, 1, 0] rfl)
            exact J104 ((((2147483647 : Int) - 0).toNat) + 1) 0 (by decide) (by decide) L0 f_5 hg hE o_a0 (by omega) (by omega) (by first | exact sk0 | exact sk1.to (by omega) | fail "none") (by omega) _ _ _ hw (lv_sub hl [1, 2, 3, 0] rfl)
          refine q_icmp_ne (tgt := 93) hx hb dX0_seek_85 (by decide) ⟨ly3_40, uy3_40⟩ ⟨by decide, by decide⟩ (fun c85 => ?_) (fun c85 => ?_)
          · refine lv_aload_n hx hb dX0_seek_93 rfl (lv_at hl 0 rfl) ?_
            refine lv_iload_n hx hb dX0_seek_94 rfl (lv_at hl 3 rfl) ?_
            refine q_call_i hA hK hw (va_runV (As := [.int (iI y3_40)]) (rest := [.ref a0]) ⟨hx, hb, hml, hown, hts⟩ (c_X0_timeOf_q zo l D cy L0 f_4 a0 y3_40 ly3_40 uy3_40 m_a0 o_a0 hg (by omega) (by omega) (by omega) (by omega) _) (cwV 1 hts (gT (inV (mr29 _ (List.mem_of_getElem? (i := 23) rfl)) (mr30 _ (List.mem_of_getElem? (i := 0) rfl)) (mr30 _ (List.mem_of_getElem? (i := 1) rfl)) (mr2 _ (List.mem_of_getElem? (i := 9) rfl)) (mr30 _ (List.mem_of_getElem? (i := 2) rfl)))) rfl rfl rfl (by decide +kernel) ⟨Nat.le_of_ble_eq_true rfl, Nat.le_of_ble_eq_true rfl⟩) (Wd.preV zo hA hZ hw hK m_a0 o_a0 rfl) rfl rfl hl.1 rfl (lv_room (Nat.le_of_ble_eq_true rfl)) dX0_seek_95 ⟨Nat.le_of_ble_eq_true rfl, Nat.le_of_ble_eq_true rfl⟩) (fun x_24 L1 f1 H locs lx_24 ux_24 ex_24 hw => ?_)
            obtain ⟨rfl, rfl, ex_24⟩ := ex_24
            exact J98 x_24 lx_24 ux_24 (by omega) _ _ _ hw (lv_sub hl [0, 1, 2] rfl)
          · refine q_ldc (n := 2147483647) hx hb hown (hts _ (List.mem_cons_of_mem _ (mr29 _ (List.mem_of_getElem? (i := 12) rfl)))) rfl dX0_seek_88 ?_
            refine lv_goto (tgt := 98) hx hb dX0_seek_90 (by decide) ?_
            exact J98 2147483647 (by decide) (by decide) (by omega) _ _ _ hw (lv_sub hl [0, 1, 2] rfl)
        refine q_icmp_ge (tgt := 77) hx hb dX0_seek_46 (by decide) ⟨ly4_40, uy4_40⟩ ⟨lx_3, ux_3⟩ (fun c46 => ?_) (fun c46 => ?_)
        · exact J77 (by omega) (by exact lsx.out nc hrq (by omega)) _ _ _ hw (lv_sub hl [0, 1, 2, 3] rfl)
        · refine lv_iload_n hx hb dX0_seek_49 rfl (lv_at hl 3 rfl) ?_
          refine q_iconst hx hb dX0_seek_50 ?_
          refine q_icmp_eq (tgt := 77) hx hb dX0_seek_51 (by decide) ⟨ly3_40, uy3_40⟩ ⟨by decide, by decide⟩ (fun c51 => ?_) (fun c51 => ?_)
          · exact J77 (by omega) (by exact lsx.out nc hrq (by omega)) _ _ _ hw (lv_sub hl [0, 1, 2, 3] rfl)
          · refine lv_aload_n hx hb dX0_seek_54 rfl (lv_at hl 0 rfl) ?_
            refine lv_iload_n hx hb dX0_seek_55 rfl (lv_at hl 3 rfl) ?_
            refine q_call_i hA hK hw (va_runV (As := [.int (iI y3_40)]) (rest := []) ⟨hx, hb, hml, hown, hts⟩ (c_X0_changeOf_o zo l D cy L0 f0 a0 y3_40 ly3_40 uy3_40 m_a0 o_a0 hg O oc _) (cwV 1 hts (gT (inV (mr26 _ (List.mem_of_getElem? (i := 15) rfl)) (mr26 _ (List.mem_of_getElem? (i := 16) rfl)) (mr26 _ (List.mem_of_getElem? (i := 17) rfl)) (mr2 _ (List.mem_of_getElem? (i := 9) rfl)) (mr26 _ (List.mem_of_getElem? (i := 18) rfl)))) rfl rfl rfl (by decide +kernel) ⟨Nat.le_of_ble_eq_true rfl, Nat.le_of_ble_eq_true rfl⟩) (Wd.preV zo hA hZ hw hK m_a0 o_a0 rfl) rfl rfl hl.1 rfl (lv_room (Nat.le_of_ble_eq_true rfl)) dX0_seek_56 ⟨Nat.le_of_ble_eq_true rfl, Nat.le_of_ble_eq_true rfl⟩) (fun x_25 L1 f1 H locs lx_25 ux_25 ex_25 hw => ?_)
            obtain ⟨rfl, rfl, ex_25⟩ := ex_25
            have h56 := ex_25
            refine q_iconst hx hb dX0_seek_59 ?_
            refine q_icmp_eq (tgt := 77) hx hb dX0_seek_60 (by decide) ⟨lx_25, ux_25⟩ ⟨by decide, by decide⟩ (fun c60 => ?_) (fun c60 => ?_)
            · exact J77 (by omega) (by exact lsx.out nc hrq (by omega)) _ _ _ hw (lv_sub hl [0, 1, 2, 3] rfl)
            · refine lv_aload_n hx hb dX0_seek_63 rfl (lv_at hl 0 rfl) ?_
              refine lv_iload_n hx hb dX0_seek_64 rfl (lv_at hl 3 rfl) ?_
              refine q_iconst hx hb dX0_seek_65 ?_
              first | refine q_iadd hx hb dX0_seek_66 ⟨by omega, by omega⟩ (fun x_26 lx_26 ux_26 ex_26 => ?_) | refine q_iaddw hx hb dX0_seek_66 (fun x_26 lx_26 ux_26 _ => ?_)
              refine q_call_i hA hK hw (va_runV (As := [.int (iI x_26)]) (rest := []) ⟨hx, hb, hml, hown, hts⟩ (c_X0_keyFrom_g zo l D cy L0 f0 a0 x_26 lx_26 ux_26 m_a0 o_a0 hg g p0 rb _) (cwV 1 hts (gT (inV (mr26 _ (List.mem_of_getElem? (i := 10) rfl)) (mr24 _ (List.mem_of_getElem? (i := 13) rfl)) (mr24 _ (List.mem_of_getElem? (i := 14) rfl)) (mr2 _ (List.mem_of_getElem? (i := 9) rfl)) (mr24 _ (List.mem_of_getElem? (i := 15) rfl)))) rfl rfl rfl (by decide +kernel) ⟨Nat.le_of_ble_eq_true rfl, Nat.le_of_ble_eq_true rfl⟩) (Wd.preV zo hA hZ hw hK m_a0 o_a0 rfl) rfl rfl hl.1 rfl (lv_room (Nat.le_of_ble_eq_true rfl)) dX0_seek_67 ⟨Nat.le_of_ble_eq_true rfl, Nat.le_of_ble_eq_true rfl⟩) (fun x_27 L1 f1 H locs lx_27 ux_27 ex_27 hw => ?_)
              obtain ⟨rfl, rfl, ex_27⟩ := ex_27
              have f67 := ex_27
              have b67 := f67.kb hrq
              clear ex_27
              refine lv_istore_n (lv' := [(3, .int (iI x_27)), (0, .ref a0), (1, .int (iI x1)), (2, .int (iI x2)), (4, .int (iI y4_40))]) hx hb dX0_seek_70 rfl hl (by decide) rfl (fun ls hl => ?_)
              obtain ⟨x_28, lx_28, ux_28, hx_28, ex_28⟩ := q_inc y4_40 (1)
              try (replace ex_28 : x_28 = y4_40 + (1) := by omega)
              refine lv_iinc (v := iI x_28) (lv' := [(4, .int (iI x_28)), (3, .int (iI x_27)), (0, .ref a0), (1, .int (iI x1)), (2, .int (iI x2))]) hx hb dX0_seek_71 hl (k := 4) rfl hx_28 (by decide) rfl (fun ls hl => ?_)
              refine lv_goto (tgt := 40) hx hb dX0_seek_74 (by decide) ?_
              exact ih40 x_27 lx_27 ux_27 x_28 lx_28 ux_28 (by omega) (by omega) (by first | exact lsx | exact lsx.step (by omega) (ch_in h56 (by omega)).2.2.2 f67 (by omega) (by omega) hrq | fail "none") (by omega) _ _ _ hw (lv_sub hl [2, 3, 4, 1, 0] rfl)
    exact J40 ((((2147483647 : Int) - 0).toNat) + 1) z3_37 lz3_37 uz3_37 0 (by decide) (by decide) (by omega) (by omega) (by first | exact lsx | exact lsx.step (by omega) (ch_in h56 (by omega)).2.2.2 f67 (by omega) (by omega) hrq | fail "none") (by omega) _ _ _ hw (lv_sub hl [1, 2, 3, 4, 0] rfl)
  refine q_icmp_eq (tgt := 37) hx hb dX0_seek_12 (by decide) ⟨lx_2, ux_2⟩ ⟨by decide, by decide⟩ (fun c12 => ?_) (fun c12 => ?_)
  · exact J37 x_2 lx_2 ux_2 (by omega) (by first | exact LSx.two (by omega) (by omega) f6 hrq (by omega) f33 (by omega) rfl | exact LSx.one (by omega) (by omega) f6 hrq (by omega) rfl | fail "none") _ _ _ hw (lv_sub hl [1, 2, 3, 0] rfl)
  · refine lv_iload_n hx hb dX0_seek_15 rfl (lv_at hl 0 rfl) ?_
    refine lv_iload_n hx hb dX0_seek_16 rfl (lv_at hl 3 rfl) ?_
    refine q_icmp_ge (tgt := 37) hx hb dX0_seek_17 (by decide) ⟨lx_2, ux_2⟩ ⟨lx2, ux2⟩ (fun c17 => ?_) (fun c17 => ?_)
    · exact J37 x_2 lx_2 ux_2 (by omega) (by first | exact LSx.two (by omega) (by omega) f6 hrq (by omega) f33 (by omega) rfl | exact LSx.one (by omega) (by omega) f6 hrq (by omega) rfl | fail "none") _ _ _ hw (lv_sub hl [1, 2, 3, 0] rfl)
    · refine lv_aload_n hx hb dX0_seek_20 rfl (lv_at hl 1 rfl) ?_
      refine lv_iload_n hx hb dX0_seek_21 rfl (lv_at hl 0 rfl) ?_
      refine q_call_i hA hK hw (va_runV (As := [.int (iI x_2)]) (rest := []) ⟨hx, hb, hml, hown, hts⟩ (c_X0_timeOf_q zo l D cy L0 f0 a0 x_2 lx_2 ux_2 m_a0 o_a0 hg (by omega) (by omega) (by omega) (by omega) _) (cwV 1 hts (gT (inV (mr29 _ (List.mem_of_getElem? (i := 23) rfl)) (mr30 _ (List.mem_of_getElem? (i := 0) rfl)) (mr30 _ (List.mem_of_getElem? (i := 1) rfl)) (mr2 _ (List.mem_of_getElem? (i := 9) rfl)) (mr30 _ (List.mem_of_getElem? (i := 2) rfl)))) rfl rfl rfl (by decide +kernel) ⟨Nat.le_of_ble_eq_true rfl, Nat.le_of_ble_eq_true rfl⟩) (Wd.preV zo hA hZ hw hK m_a0 o_a0 rfl) rfl rfl hl.1 rfl (lv_room (Nat.le_of_ble_eq_true rfl)) dX0_seek_22 ⟨Nat.le_of_ble_eq_true rfl, Nat.le_of_ble_eq_true rfl⟩) (fun x_29 L1 f1 H locs lx_29 ux_29 ex_29 hw => ?_)
      obtain ⟨rfl, rfl, ex_29⟩ := ex_29
      refine lv_iload_n hx hb dX0_seek_25 rfl (lv_at hl 2 rfl) ?_
      refine q_icmp_ne (tgt := 37) hx hb dX0_seek_26 (by decide) ⟨lx_29, ux_29⟩ ⟨lx1, ux1⟩ (fun c26 => ?_) (fun c26 => ?_)
      · exact J37 x_2 lx_2 ux_2 (by omega) (by first | exact LSx.two (by omega) (by omega) f6 hrq (by omega) f33 (by omega) rfl | exact LSx.one (by omega) (by omega) f6 hrq (by omega) rfl | fail "none") _ _ _ hw (lv_sub hl [1, 2, 3, 0] rfl)
      · refine lv_aload_n hx hb dX0_seek_29 rfl (lv_at hl 1 rfl) ?_
        refine lv_iload_n hx hb dX0_seek_30 rfl (lv_at hl 0 rfl) ?_
        refine q_iconst hx hb dX0_seek_31 ?_
        first | refine q_iadd hx hb dX0_seek_32 ⟨by omega, by omega⟩ (fun x_30 lx_30 ux_30 ex_30 => ?_) | refine q_iaddw hx hb dX0_seek_32 (fun x_30 lx_30 ux_30 _ => ?_)
        refine q_call_i hA hK hw (va_runV (As := [.int (iI x_30)]) (rest := []) ⟨hx, hb, hml, hown, hts⟩ (c_X0_keyFrom_g zo l D cy L0 f0 a0 x_30 lx_30 ux_30 m_a0 o_a0 hg g p0 rb _) (cwV 1 hts (gT (inV (mr26 _ (List.mem_of_getElem? (i := 10) rfl)) (mr24 _ (List.mem_of_getElem? (i := 13) rfl)) (mr24 _ (List.mem_of_getElem? (i := 14) rfl)) (mr2 _ (List.mem_of_getElem? (i := 9) rfl)) (mr24 _ (List.mem_of_getElem? (i := 15) rfl)))) rfl rfl rfl (by decide +kernel) ⟨Nat.le_of_ble_eq_true rfl, Nat.le_of_ble_eq_true rfl⟩) (Wd.preV zo hA hZ hw hK m_a0 o_a0 rfl) rfl rfl hl.1 rfl (lv_room (Nat.le_of_ble_eq_true rfl)) dX0_seek_33 ⟨Nat.le_of_ble_eq_true rfl, Nat.le_of_ble_eq_true rfl⟩) (fun x_31 L1 f1 H locs lx_31 ux_31 ex_31 hw => ?_)
        obtain ⟨rfl, rfl, ex_31⟩ := ex_31
        have f33 := ex_31
        have b33 := f33.kb hrq
        clear ex_31
        refine lv_istore_n (lv' := [(3, .int (iI x_31)), (0, .ref a0), (1, .int (iI x1)), (2, .int (iI x2))]) hx hb dX0_seek_36 rfl hl (by decide) rfl (fun ls hl => ?_)
        exact J37 x_31 lx_31 ux_31 (by omega) (by first | exact LSx.two (by omega) (by omega) f6 hrq (by omega) f33 (by omega) rfl | exact LSx.one (by omega) (by omega) f6 hrq (by omega) rfl | fail "none") _ _ _ hw (lv_sub hl [1, 2, 3, 0] rfl)
set_option maxHeartbeats 4000000 in
set_option maxRecDepth 100000 in
theorem c_X0_seekAhead_o {Z : Zt} (zo : Zok Z) (l : Launch) (D : va_G) (cy : Cy) (L0 : List Nat) (f0 : Nat → va_E) (a0 : Nat) (x1 : Int) (lx1 : -2147483648 ≤ x1) (ux1 : x1 ≤ 2147483647) (m_a0 : a0 ∈ L0) (o_a0 : Ob f0 a0 0) (hg : GI cy L0 f0) (g : Int → Int) (p0 : Int) (rb : RB f0 a0 g p0) (O : Int → Int) (oc : OC f0 a0 O) (hk : OKk g p0 O) (m0 : 0 ≤ g (p0 + 1)) (m1 : g (p0 + 1) ≤ 1439) (u0 : -90000000 ≤ x1) (u1 : x1 ≤ 100000000) : Ci Z l yX0_seekAhead (Cond.code yX0_seekAhead cX0_seekAhead 6 (some .boolean) :: TB) ({ frames := 4, cells := 0, slots := 0, locals := 88 } : Room) 0 0 D (tq cy) [.ref a0, .int (iI x1)] L0 f0 (fun (r : Int) (L1 : List Nat) (f1 : Nat → va_E) => L0 = L1 ∧ GI cy L0 f1 ∧ Eh cy f0 f1 ∧ (Sa (Oc g p0 O) x1 (fI f1 a0 13) (fI f1 a0 14) ∧ ((r = 1 ∧ fI f1 a0 14 ≠ -1) ∨ (r = 0 ∧ fI f1 a0 14 = -1)))) := by
  refine Ci.enter (cc := cX0_seekAhead) (n := 6) rfl (plainFor_of_name (by decide)) (Nat.le_of_ble_eq_true rfl) ?_
  intro p e s m below meth c ls A hx hb hr hts hown hlocks hnm hml hK hA hAe hw hZ hl
  have hown : s.vm.findClass RX0 = some m.cls := hown
  have hl : lv_has ls 6 [(0, .ref a0), (1, .int (iI x1))] := hl
  have hN : ZN s := (zo.2.2.2.2 _ _ _ hZ).2
  have hE : Eh cy f0 f0 := Eh.refl cy f0
  have bb : 0 ≤ fI f0 a0 10 ∧ fI f0 a0 10 ≤ 16 := hg.1 _ m_a0 0 10 o_a0
  have hrq : ∀ d : Int, KG g p0 d → 0 ≤ d ∧ d ≤ 36524 := fun d z => by have := rb.2.1.rg z; omega
  have em : fI f0 a0 1 = g (p0 + 1) := rb.1.1.2.1
  have od : OdR (aI f0 (KA f0 a0)) (aI f0 (TA f0 a0)) (fI f0 a0 10) O := oc
  have nc := od.card bb.1 hk.kb
  have tb : ∀ i : Int, 0 ≤ i → i < fI f0 a0 10 → aI f0 (TA f0 a0) i ≤ 52595999 ∧ -1 ≤ aI f0 (TA f0 a0) i := fun i i0 i1 => by have w := od.at i0 i1 rfl; have v := (hk _ w.2.1).2.2.2; omega
  refine lv_aload_n hx hb dX0_seekAhead_0 rfl (lv_at hl 0 rfl) ?_
  refine lv_aload_n hx hb dX0_seekAhead_1 rfl (lv_at hl 0 rfl) ?_
  refine lv_iload_n hx hb dX0_seekAhead_2 rfl (lv_at hl 1 rfl) ?_
  refine q_iconst hx hb dX0_seekAhead_3 ?_
  first | refine q_isub hx hb dX0_seekAhead_4 ⟨by omega, by omega⟩ (fun x_1 lx_1 ux_1 ex_1 => ?_) | refine q_isubw hx hb dX0_seekAhead_4 (fun x_1 lx_1 ux_1 _ => ?_)
  refine q_call_i hA hK hw (va_runV (As := [.int (iI x_1)]) (rest := [.ref a0]) ⟨hx, hb, hml, hown, hts⟩ (c_X0_ruledTo_q zo l D cy L0 f0 a0 x_1 lx_1 ux_1 m_a0 o_a0 hg (by omega) (by omega) (by omega) (by omega) _) (cwV 1 hts (gT (inV (mr30 _ (List.mem_of_getElem? (i := 23) rfl)) (mr31 _ (List.mem_of_getElem? (i := 0) rfl)) (mr31 _ (List.mem_of_getElem? (i := 1) rfl)) (mr2 _ (List.mem_of_getElem? (i := 9) rfl)) (mr31 _ (List.mem_of_getElem? (i := 2) rfl)))) rfl rfl rfl (by decide +kernel) ⟨Nat.le_of_ble_eq_true rfl, Nat.le_of_ble_eq_true rfl⟩) (Wd.preV zo hA hZ hw hK m_a0 o_a0 rfl) rfl rfl hl.1 rfl (lv_room (Nat.le_of_ble_eq_true rfl)) dX0_seekAhead_5 ⟨Nat.le_of_ble_eq_true rfl, Nat.le_of_ble_eq_true rfl⟩) (fun x_2 L1 f1 H locs lx_2 ux_2 ex_2 hw => ?_)
  obtain ⟨rfl, rfl, ex_2⟩ := ex_2
  obtain ⟨aa, eaa⟩ : ∃ z : Int, z = x_2 := ⟨_, rfl⟩
  have h5 := ex_2
  rw [← eaa] at h5
  refine q_call_i hA hK hw (va_runV (As := [.int (iI x_2)]) (rest := []) ⟨hx, hb, hml, hown, hts⟩ (c_X0_keyTo_g zo l D cy L0 f0 a0 x_2 lx_2 ux_2 m_a0 o_a0 hg g p0 rb _) (cwV 1 hts (gT (inV (mr31 _ (List.mem_of_getElem? (i := 3) rfl)) (mr31 _ (List.mem_of_getElem? (i := 4) rfl)) (mr31 _ (List.mem_of_getElem? (i := 5) rfl)) (mr2 _ (List.mem_of_getElem? (i := 9) rfl)) (mr31 _ (List.mem_of_getElem? (i := 6) rfl)))) rfl rfl rfl (by decide +kernel) ⟨Nat.le_of_ble_eq_true rfl, Nat.le_of_ble_eq_true rfl⟩) (Wd.preV zo hA hZ hw hK m_a0 o_a0 rfl) rfl rfl hl.1 rfl (lv_room (Nat.le_of_ble_eq_true rfl)) dX0_seekAhead_8 ⟨Nat.le_of_ble_eq_true rfl, Nat.le_of_ble_eq_true rfl⟩) (fun x_3 L1 f1 H locs lx_3 ux_3 ex_3 hw => ?_)
  obtain ⟨rfl, rfl, ex_3⟩ := ex_3
  have f8 : Lst (KG g p0) aa x_3 := by rw [eaa]; exact ex_3
  have b8 := f8.kb hrq
  clear ex_3
  refine lv_istore_n (lv' := [(2, .int (iI x_3)), (0, .ref a0), (1, .int (iI x1))]) hx hb dX0_seekAhead_11 rfl hl (by decide) rfl (fun ls hl => ?_)
  refine q_iconst hx hb dX0_seekAhead_12 ?_
  refine lv_istore_n (lv' := [(3, .int (iI 0)), (2, .int (iI x_3)), (0, .ref a0), (1, .int (iI x1))]) hx hb dX0_seekAhead_13 rfl hl (by decide) rfl (fun ls hl => ?_)
  have J14 : ∀ (n14 : Nat) (y2_14 : Int) (ly2_14 : -2147483648 ≤ y2_14) (uy2_14 : y2_14 ≤ 2147483647) (y3_14 : Int) (ly3_14 : -2147483648 ≤ y3_14) (uy3_14 : y3_14 ≤ 2147483647) (i1 : 0 ≤ y3_14) (b5 : y2_14 = -1 ∨ (0 ≤ y2_14 ∧ y2_14 ≤ 36524)) (lr : LR (KG g p0) O aa y2_14 y3_14) (hn14 : ((2147483647 : Int) - y3_14).toNat < n14) (H : Heap) (locs : List Loc) (ls : Array Slot) (hw : Wd D A s.heap L0 f0 H locs) (hl : lv_has ls 6 [(0, .ref a0), (1, .int (iI x1)), (2, .int (iI y2_14)), (3, .int (iI y3_14))]), W p l e ({ frames := 4, cells := 0, slots := 0, locals := 88 } : Room) s m ([.ref a0, .int (iI x1)] : List Value).toArray below meth c H locs (0 + 0 + 0) (0 + 0 + 0) (MQ below (Qi D (tq cy) L0 f0 s.heap.size (fun (r : Int) (L1 : List Nat) (f1 : Nat → va_E) => L0 = L1 ∧ GI cy L0 f1 ∧ Eh cy f0 f1 ∧ (Sa (Oc g p0 O) x1 (fI f1 a0 13) (fI f1 a0 14) ∧ ((r = 1 ∧ fI f1 a0 14 ≠ -1) ∨ (r = 0 ∧ fI f1 a0 14 = -1))))) ([.ref a0, .int (iI x1)] : List Value).toArray s 0 0 A) (F0 m 14 ls []) := by
    intro n14
    induction n14 with
    | zero => intro y2_14 ly2_14 uy2_14 y3_14 ly3_14 uy3_14 i1 b5 lr hn14; exact absurd hn14 (Nat.not_lt_zero _)
    | succ n14 ih14 =>
      intro y2_14 ly2_14 uy2_14 y3_14 ly3_14 uy3_14 i1 b5 lr hn14 H locs ls hw hl
      refine lv_iload_n hx hb dX0_seekAhead_14 rfl (lv_at hl 3 rfl) ?_
      refine lv_aload_n hx hb dX0_seekAhead_15 rfl (lv_at hl 0 rfl) ?_
      refine q_geti (ci := 0) (C := RX0) (T := TX0) (N := 15) hx hb hts (fun w h => List.mem_cons_of_mem _ (mfX00 w h)) hown hK hw m_a0 o_a0 rfl 10 (by decide) (hts _ (List.mem_cons_of_mem _ (mr14 _ (List.mem_of_getElem? (i := 9) rfl)))) (fun _ h => h) rfl dX0_seekAhead_16 (fun x_4 lx_4 ux_4 ex_4 => ?_)
      have bx_4 : 0 ≤ x_4 ∧ x_4 ≤ 16 := by rw [ex_4]; exact hg.1 _ m_a0 0 10 o_a0
      have J50 : ∀ (b4 : y2_14 = -1 ∨ (0 ≤ y2_14 ∧ y2_14 ≤ 36524)) (ry : RY (KG g p0) O aa y2_14) (H : Heap) (locs : List Loc) (ls : Array Slot) (hw : Wd D A s.heap L0 f0 H locs) (hl : lv_has ls 6 [(0, .ref a0), (1, .int (iI x1)), (2, .int (iI y2_14))]), W p l e ({ frames := 4, cells := 0, slots := 0, locals := 88 } : Room) s m ([.ref a0, .int (iI x1)] : List Value).toArray below meth c H locs (0 + 0 + 0) (0 + 0 + 0) (MQ below (Qi D (tq cy) L0 f0 s.heap.size (fun (r : Int) (L1 : List Nat) (f1 : Nat → va_E) => L0 = L1 ∧ GI cy L0 f1 ∧ Eh cy f0 f1 ∧ (Sa (Oc g p0 O) x1 (fI f1 a0 13) (fI f1 a0 14) ∧ ((r = 1 ∧ fI f1 a0 14 ≠ -1) ∨ (r = 0 ∧ fI f1 a0 14 = -1))))) ([.ref a0, .int (iI x1)] : List Value).toArray s 0 0 A) (F0 m 50 ls []) := by
        intro b4 ry H locs ls hw hl
        refine lv_aload_n hx hb dX0_seekAhead_50 rfl (lv_at hl 0 rfl) ?_
        refine lv_iload_n hx hb dX0_seekAhead_51 rfl (lv_at hl 2 rfl) ?_
        refine q_puti (ci := 0) (C := RX0) (T := TX0) (N := 15) hx hb hts (fun w h => List.mem_cons_of_mem _ (mfX00 w h)) hown hK hw m_a0 o_a0 rfl 14 (by decide) (hts _ (List.mem_cons_of_mem _ (mr29 _ (List.mem_of_getElem? (i := 11) rfl)))) (fun _ h => h) tyX0 tyX0_ok nmX0 rfl (ty := .int) (by decide +kernel) rfl rfl dX0_seekAhead_52 (fun H locs hw => ?_)
        have oo := o_a0
        obtain ⟨f_5, ef_5⟩ : ∃ g : Nat → va_E, g = pU f0 a0 14 (.int (iI y2_14)) := ⟨_, rfl⟩
        have hX : Eh cy f0 f_5 := by rw [ef_5]; exact Eh_pU oo rfl rfl (by decide)
        have hg : GI cy L0 f_5 := by rw [ef_5]; exact hg.putI oo rfl ⟨ly2_14, uy2_14⟩ trivial
        rw [← ef_5] at hw
        have hE := hE.trans hX
        have o_a0 := hX.1.1.1 _ _ o_a0
        have t_a0_13_f_5 : fI f_5 a0 13 = fI f0 a0 13 := by rw [ef_5]; exact fI_pU (Or.inr (by decide))
        have vf_5 : fI f_5 a0 14 = y2_14 := by rw [ef_5]; exact fI_pU_self oo rfl ⟨ly2_14, uy2_14⟩
        have em1 : fI f_5 a0 1 = g (p0 + 1) := (fI_W (hE.2.1 a0 1 (by decide) (by decide))).trans em
        have v14 := vf_5
        refine lv_aload_n hx hb dX0_seekAhead_55 rfl (lv_at hl 0 rfl) ?_
        refine lv_iload_n hx hb dX0_seekAhead_56 rfl (lv_at hl 2 rfl) ?_
        refine q_iconst hx hb dX0_seekAhead_57 ?_
        have J70 : ∀ (w0_70 : Int) (lw0_70 : -2147483648 ≤ w0_70) (uw0_70 : w0_70 ≤ 2147483647) (k70 : (w0_70 = -1 ∧ y2_14 = -1) ∨ (w0_70 = 1440 * y2_14 + g (p0 + 1) ∧ y2_14 ≠ -1)) (H : Heap) (locs : List Loc) (ls : Array Slot) (hw : Wd D A s.heap L0 f_5 H locs) (hl : lv_has ls 6 [(0, .ref a0), (1, .int (iI x1))]), W p l e ({ frames := 4, cells := 0, slots := 0, locals := 88 } : Room) s m ([.ref a0, .int (iI x1)] : List Value).toArray below meth c H locs (0 + 0 + 0) (0 + 0 + 0) (MQ below (Qi D (tq cy) L0 f0 s.heap.size (fun (r : Int) (L1 : List Nat) (f1 : Nat → va_E) => L0 = L1 ∧ GI cy L0 f1 ∧ Eh cy f0 f1 ∧ (Sa (Oc g p0 O) x1 (fI f1 a0 13) (fI f1 a0 14) ∧ ((r = 1 ∧ fI f1 a0 14 ≠ -1) ∨ (r = 0 ∧ fI f1 a0 14 = -1))))) ([.ref a0, .int (iI x1)] : List Value).toArray s 0 0 A) (F0 m 70 ls [.int (iI w0_70), .ref a0]) := by
          intro w0_70 lw0_70 uw0_70 k70 H locs ls hw hl
          refine q_puti (ci := 0) (C := RX0) (T := TX0) (N := 15) hx hb hts (fun w h => List.mem_cons_of_mem _ (mfX00 w h)) hown hK hw m_a0 o_a0 rfl 13 (by decide) (hts _ (List.mem_cons_of_mem _ (mr29 _ (List.mem_of_getElem? (i := 13) rfl)))) (fun _ h => h) tyX0 tyX0_ok nmX0 rfl (ty := .int) (by decide +kernel) rfl rfl dX0_seekAhead_70 (fun H locs hw => ?_)
          have oo := o_a0
          obtain ⟨f_6, ef_6⟩ : ∃ g : Nat → va_E, g = pU f_5 a0 13 (.int (iI w0_70)) := ⟨_, rfl⟩
          have hX : Eh cy f_5 f_6 := by rw [ef_6]; exact Eh_pU oo rfl rfl (by decide)
          have hg : GI cy L0 f_6 := by rw [ef_6]; exact hg.putI oo rfl ⟨lw0_70, uw0_70⟩ trivial
          rw [← ef_6] at hw
          have hE := hE.trans hX
          have o_a0 := hX.1.1.1 _ _ o_a0
          have t_a0_14_f_6 : fI f_6 a0 14 = fI f_5 a0 14 := by rw [ef_6]; exact fI_pU (Or.inr (by decide))
          have vf_6 : fI f_6 a0 13 = w0_70 := by rw [ef_6]; exact fI_pU_self oo rfl ⟨lw0_70, uw0_70⟩
          have sk0 : Sa (PQ (Q0 (KG g p0) O (g (p0 + 1))) (aI f0 (TA f0 a0)) (aI f0 (KA f0 a0)) 0) x1 (fI f_6 a0 13) (fI f_6 a0 14) := by rw [vf_6, t_a0_14_f_6, v14]; exact (ry.sa (by omega) (by omega) hrq (by omega)).cg (fun t k => PQ.zero (by omega))
          refine q_iconst hx hb dX0_seekAhead_73 ?_
          refine lv_istore_n (lv' := [(3, .int (iI 0)), (0, .ref a0), (1, .int (iI x1))]) hx hb dX0_seekAhead_74 rfl hl (by decide) rfl (fun ls hl => ?_)
          have J75 : ∀ (n75 : Nat) (y3_75 : Int) (ly3_75 : -2147483648 ≤ y3_75) (uy3_75 : y3_75 ≤ 2147483647) (L : List Nat) (fw75 : Nat → va_E) (hg : GI cy L0 fw75) (hE : Eh cy f0 fw75) (o_a0 : Ob fw75 a0 0) (i1 : 0 ≤ y3_75) (i2 : y3_75 ≤ fI f0 a0 10) (sk : Sa (PQ (Q0 (KG g p0) O (g (p0 + 1))) (aI f0 (TA f0 a0)) (aI f0 (KA f0 a0)) y3_75) x1 (fI fw75 a0 13) (fI fw75 a0 14)) (hn75 : ((2147483647 : Int) - y3_75).toNat < n75) (H : Heap) (locs : List Loc) (ls : Array Slot) (hw : Wd D A s.heap L0 fw75 H locs) (hl : lv_has ls 6 [(0, .ref a0), (1, .int (iI x1)), (3, .int (iI y3_75))]), W p l e ({ frames := 4, cells := 0, slots := 0, locals := 88 } : Room) s m ([.ref a0, .int (iI x1)] : List Value).toArray below meth c H locs (0 + 0 + 0) (0 + 0 + 0) (MQ below (Qi D (tq cy) L0 f0 s.heap.size (fun (r : Int) (L1 : List Nat) (f1 : Nat → va_E) => L0 = L1 ∧ GI cy L0 f1 ∧ Eh cy f0 f1 ∧ (Sa (Oc g p0 O) x1 (fI f1 a0 13) (fI f1 a0 14) ∧ ((r = 1 ∧ fI f1 a0 14 ≠ -1) ∨ (r = 0 ∧ fI f1 a0 14 = -1))))) ([.ref a0, .int (iI x1)] : List Value).toArray s 0 0 A) (F0 m 75 ls []) := by
            intro n75
            induction n75 with
            | zero => intro y3_75 ly3_75 uy3_75 L fw75 hg hE o_a0 i1 i2 sk hn75; exact absurd hn75 (Nat.not_lt_zero _)
            | succ n75 ih75 =>
              intro y3_75 ly3_75 uy3_75 L fw75 hg hE o_a0 i1 i2 sk hn75 H locs ls hw hl
              have KAf : KA fw75 a0 = KA f0 a0 := KA_W (hE.2.1 a0 11 (by decide) (by decide))
              have TAf : TA fw75 a0 = TA f0 a0 := TA_W (hE.2.1 a0 12 (by decide) (by decide))
              have n10 : fI fw75 a0 10 = fI f0 a0 10 := fI_W (hE.2.1 a0 10 (by decide) (by decide))
              have arr : ∀ (y : Nat) (j : Int), aI fw75 y j = aI f0 y j := hE.2.2.2.2
              refine lv_iload_n hx hb dX0_seekAhead_75 rfl (lv_at hl 2 rfl) ?_
              refine lv_aload_n hx hb dX0_seekAhead_76 rfl (lv_at hl 0 rfl) ?_
              refine q_geti (ci := 0) (C := RX0) (T := TX0) (N := 15) hx hb hts (fun w h => List.mem_cons_of_mem _ (mfX00 w h)) hown hK hw m_a0 o_a0 rfl 10 (by decide) (hts _ (List.mem_cons_of_mem _ (mr14 _ (List.mem_of_getElem? (i := 9) rfl)))) (fun _ h => h) rfl dX0_seekAhead_77 (fun x_7 lx_7 ux_7 ex_7 => ?_)
              have bx_7 : 0 ≤ x_7 ∧ x_7 ≤ 16 := by rw [ex_7]; exact hg.1 _ m_a0 0 10 o_a0
              refine q_icmp_ge (tgt := 156) hx hb dX0_seekAhead_80 (by decide) ⟨ly3_75, uy3_75⟩ ⟨lx_7, ux_7⟩ (fun c80 => ?_) (fun c80 => ?_)
              · refine lv_aload_n hx hb dX0_seekAhead_156 rfl (lv_at hl 0 rfl) ?_
                refine q_geti (ci := 0) (C := RX0) (T := TX0) (N := 15) hx hb hts (fun w h => List.mem_cons_of_mem _ (mfX00 w h)) hown hK hw m_a0 o_a0 rfl 14 (by decide) (hts _ (List.mem_cons_of_mem _ (mr29 _ (List.mem_of_getElem? (i := 11) rfl)))) (fun _ h => h) rfl dX0_seekAhead_157 (fun x_8 lx_8 ux_8 ex_8 => ?_)
                refine q_iconst hx hb dX0_seekAhead_160 ?_
                refine q_icmp_eq (tgt := 168) hx hb dX0_seekAhead_161 (by decide) ⟨lx_8, ux_8⟩ ⟨by decide, by decide⟩ (fun c161 => ?_) (fun c161 => ?_)
                · refine q_iconst hx hb dX0_seekAhead_168 ?_
                  exact q_ret_z hx hb hr hlocks hK hAe hw (by omega) (Nat.le_of_ble_eq_true rfl) (Nat.le_of_ble_eq_true rfl) dX0_seekAhead_169 (by exact ⟨rfl, hg, hE, sk.oc od (by omega), by omega⟩)
                · refine q_iconst hx hb dX0_seekAhead_164 ?_
                  refine lv_goto (tgt := 169) hx hb dX0_seekAhead_165 (by decide) ?_
                  exact q_ret_z hx hb hr hlocks hK hAe hw (by omega) (Nat.le_of_ble_eq_true rfl) (Nat.le_of_ble_eq_true rfl) dX0_seekAhead_169 (by exact ⟨rfl, hg, hE, sk.oc od (by omega), by omega⟩)
              · refine lv_aload_n hx hb dX0_seekAhead_83 rfl (lv_at hl 0 rfl) ?_
                obtain ⟨r_9, er_9, m_r_9, o_r_9⟩ := (show ∃ r, fR fw75 a0 12 = some r ∧ r ∈ L0 ∧ ArI fw75 r cy.2.1 16 from hg.2.1 _ m_a0 0 12 o_a0)
                refine q_getr (ci := 0) (C := RX0) (T := TX0) (N := 15) hx hb hts (fun w h => List.mem_cons_of_mem _ (mfX00 w h)) hown hK hw m_a0 o_a0 rfl 12 (by decide) (hts _ (List.mem_cons_of_mem _ (mr3 _ (List.mem_of_getElem? (i := 3) rfl)))) (fun _ h => h) rfl er_9 dX0_seekAhead_84 ?_
                have k84 := TA_e er_9
                refine lv_iload_n hx hb dX0_seekAhead_87 rfl (lv_at hl 2 rfl) ?_
                refine q_iald hx hb hK hw m_r_9 1 o_r_9 rfl ⟨ly3_75, uy3_75⟩ (by omega) (by omega) dX0_seekAhead_88 (fun x_10 lx_10 ux_10 ex_10 => ?_)
                have h88 : x_10 = aI f0 (TA f0 a0) y3_75 := ex_10.trans (by rw [k84, TAf, arr])
                have t9 := tb y3_75 (by omega) (by omega)
                refine lv_istore (lv' := [(4, .int (iI x_10)), (0, .ref a0), (1, .int (iI x1)), (3, .int (iI y3_75))]) hx hb dX0_seekAhead_89 hl (by decide) rfl (fun ls hl => ?_)
                refine lv_aload_n hx hb dX0_seekAhead_91 rfl (lv_at hl 1 rfl) ?_
                obtain ⟨r_11, er_11, m_r_11, o_r_11⟩ := (show ∃ r, fR fw75 a0 11 = some r ∧ r ∈ L0 ∧ ArI fw75 r cy.2.1 16 from hg.2.1 _ m_a0 0 11 o_a0)
                refine q_getr (ci := 0) (C := RX0) (T := TX0) (N := 15) hx hb hts (fun w h => List.mem_cons_of_mem _ (mfX00 w h)) hown hK hw m_a0 o_a0 rfl 11 (by decide) (hts _ (List.mem_cons_of_mem _ (mr3 _ (List.mem_of_getElem? (i := 2) rfl)))) (fun _ h => h) rfl er_11 dX0_seekAhead_92 ?_
                have k92 := KA_e er_11
                refine lv_iload_n hx hb dX0_seekAhead_95 rfl (lv_at hl 3 rfl) ?_
                refine q_iald hx hb hK hw m_r_11 1 o_r_11 rfl ⟨ly3_75, uy3_75⟩ (by omega) (by omega) dX0_seekAhead_96 (fun x_12 lx_12 ux_12 ex_12 => ?_)
                have h96 : x_12 = aI f0 (KA f0 a0) y3_75 := ex_12.trans (by rw [k92, KAf, arr])
                refine lv_istore (lv' := [(5, .int (iI x_12)), (4, .int (iI x_10)), (0, .ref a0), (1, .int (iI x1)), (3, .int (iI y3_75))]) hx hb dX0_seekAhead_97 hl (by decide) rfl (fun ls hl => ?_)
                refine lv_iload hx hb dX0_seekAhead_99 (lv_at hl 1 rfl) ?_
                refine q_iconst hx hb dX0_seekAhead_101 ?_
                have J150 : ∀ (L : List Nat) (fw150 : Nat → va_E) (hg : GI cy L0 fw150) (hE : Eh cy f0 fw150) (o_a0 : Ob fw150 a0 0) (sk1 : Sa (PQ (Q0 (KG g p0) O (g (p0 + 1))) (aI f0 (TA f0 a0)) (aI f0 (KA f0 a0)) (y3_75 + 1)) x1 (fI fw150 a0 13) (fI fw150 a0 14)) (H : Heap) (locs : List Loc) (ls : Array Slot) (hw : Wd D A s.heap L0 fw150 H locs) (hl : lv_has ls 6 [(0, .ref a0), (1, .int (iI x1)), (3, .int (iI y3_75))]), W p l e ({ frames := 4, cells := 0, slots := 0, locals := 88 } : Room) s m ([.ref a0, .int (iI x1)] : List Value).toArray below meth c H locs (0 + 0 + 0) (0 + 0 + 0) (MQ below (Qi D (tq cy) L0 f0 s.heap.size (fun (r : Int) (L1 : List Nat) (f1 : Nat → va_E) => L0 = L1 ∧ GI cy L0 f1 ∧ Eh cy f0 f1 ∧ (Sa (Oc g p0 O) x1 (fI f1 a0 13) (fI f1 a0 14) ∧ ((r = 1 ∧ fI f1 a0 14 ≠ -1) ∨ (r = 0 ∧ fI f1 a0 14 = -1))))) ([.ref a0, .int (iI x1)] : List Value).toArray s 0 0 A) (F0 m 150 ls []) := by
                  intro L fw150 hg hE o_a0 sk1 H locs ls hw hl
                  obtain ⟨x_13, lx_13, ux_13, hx_13, ex_13⟩ := q_inc y3_75 (1)
                  try (replace ex_13 : x_13 = y3_75 + (1) := by omega)
                  refine lv_iinc (v := iI x_13) (lv' := [(3, .int (iI x_13)), (0, .ref a0), (1, .int (iI x1))]) hx hb dX0_seekAhead_150 hl (k := 2) rfl hx_13 (by decide) rfl (fun ls hl => ?_)
                  refine lv_goto (tgt := 75) hx hb dX0_seekAhead_153 (by decide) ?_
                  exact ih75 x_13 lx_13 ux_13 L0 fw150 hg hE o_a0 (by omega) (by omega) (by first | exact sk0 | exact sk1.to (by omega) | fail "none") (by omega) _ _ _ hw (lv_sub hl [1, 2, 0] rfl)
                refine q_icmp_eq (tgt := 150) hx hb dX0_seekAhead_102 (by decide) ⟨lx_10, ux_10⟩ ⟨by decide, by decide⟩ (fun c102 => ?_) (fun c102 => ?_)
                · exact J150 L0 fw75 hg hE o_a0 (by first | exact sk.no h88 h96 rfl (by omega) (by omega) (by omega) | exact sk2 | fail "none") _ _ _ hw (lv_sub hl [2, 3, 4] rfl)
                · refine lv_iload hx hb dX0_seekAhead_105 (lv_at hl 1 rfl) ?_
                  refine lv_iload_n hx hb dX0_seekAhead_107 rfl (lv_at hl 3 rfl) ?_
                  refine q_icmp_ge (tgt := 150) hx hb dX0_seekAhead_108 (by decide) ⟨lx_10, ux_10⟩ ⟨lx1, ux1⟩ (fun c108 => ?_) (fun c108 => ?_)
                  · exact J150 L0 fw75 hg hE o_a0 (by first | exact sk.no h88 h96 rfl (by omega) (by omega) (by omega) | exact sk2 | fail "none") _ _ _ hw (lv_sub hl [2, 3, 4] rfl)
                  · refine lv_iload hx hb dX0_seekAhead_111 (lv_at hl 1 rfl) ?_
                    refine lv_aload_n hx hb dX0_seekAhead_113 rfl (lv_at hl 2 rfl) ?_
                    refine q_geti (ci := 0) (C := RX0) (T := TX0) (N := 15) hx hb hts (fun w h => List.mem_cons_of_mem _ (mfX00 w h)) hown hK hw m_a0 o_a0 rfl 13 (by decide) (hts _ (List.mem_cons_of_mem _ (mr29 _ (List.mem_of_getElem? (i := 13) rfl)))) (fun _ h => h) rfl dX0_seekAhead_114 (fun x_14 lx_14 ux_14 ex_14 => ?_)
                    have J138 : ∀ (k138 : fI fw75 a0 13 < x_10 ∨ (x_10 = fI fw75 a0 13 ∧ fI fw75 a0 14 < x_12)) (H : Heap) (locs : List Loc) (ls : Array Slot) (hw : Wd D A s.heap L0 fw75 H locs) (hl : lv_has ls 6 [(0, .ref a0), (1, .int (iI x1)), (3, .int (iI y3_75)), (4, .int (iI x_10)), (5, .int (iI x_12))]), W p l e ({ frames := 4, cells := 0, slots := 0, locals := 88 } : Room) s m ([.ref a0, .int (iI x1)] : List Value).toArray below meth c H locs (0 + 0 + 0) (0 + 0 + 0) (MQ below (Qi D (tq cy) L0 f0 s.heap.size (fun (r : Int) (L1 : List Nat) (f1 : Nat → va_E) => L0 = L1 ∧ GI cy L0 f1 ∧ Eh cy f0 f1 ∧ (Sa (Oc g p0 O) x1 (fI f1 a0 13) (fI f1 a0 14) ∧ ((r = 1 ∧ fI f1 a0 14 ≠ -1) ∨ (r = 0 ∧ fI f1 a0 14 = -1))))) ([.ref a0, .int (iI x1)] : List Value).toArray s 0 0 A) (F0 m 138 ls []) := by
                      intro k138 H locs ls hw hl
                      refine lv_aload_n hx hb dX0_seekAhead_138 rfl (lv_at hl 0 rfl) ?_
                      refine lv_iload hx hb dX0_seekAhead_139 (lv_at hl 3 rfl) ?_
                      refine q_puti (ci := 0) (C := RX0) (T := TX0) (N := 15) hx hb hts (fun w h => List.mem_cons_of_mem _ (mfX00 w h)) hown hK hw m_a0 o_a0 rfl 13 (by decide) (hts _ (List.mem_cons_of_mem _ (mr29 _ (List.mem_of_getElem? (i := 13) rfl)))) (fun _ h => h) tyX0 tyX0_ok nmX0 rfl (ty := .int) (by decide +kernel) rfl rfl dX0_seekAhead_141 (fun H locs hw => ?_)
                      have oo := o_a0
                      obtain ⟨f_15, ef_15⟩ : ∃ g : Nat → va_E, g = pU fw75 a0 13 (.int (iI x_10)) := ⟨_, rfl⟩
                      have hX : Eh cy fw75 f_15 := by rw [ef_15]; exact Eh_pU oo rfl rfl (by decide)
                      have hg : GI cy L0 f_15 := by rw [ef_15]; exact hg.putI oo rfl ⟨lx_10, ux_10⟩ trivial
                      rw [← ef_15] at hw
                      have hE := hE.trans hX
                      have o_a0 := hX.1.1.1 _ _ o_a0
                      have t_a0_14_f_15 : fI f_15 a0 14 = fI fw75 a0 14 := by rw [ef_15]; exact fI_pU (Or.inr (by decide))
                      have vf_15 : fI f_15 a0 13 = x_10 := by rw [ef_15]; exact fI_pU_self oo rfl ⟨lx_10, ux_10⟩
                      have v13b := vf_15
                      refine lv_aload_n hx hb dX0_seekAhead_144 rfl (lv_at hl 0 rfl) ?_
                      refine lv_iload hx hb dX0_seekAhead_145 (lv_at hl 4 rfl) ?_
                      refine q_puti (ci := 0) (C := RX0) (T := TX0) (N := 15) hx hb hts (fun w h => List.mem_cons_of_mem _ (mfX00 w h)) hown hK hw m_a0 o_a0 rfl 14 (by decide) (hts _ (List.mem_cons_of_mem _ (mr29 _ (List.mem_of_getElem? (i := 11) rfl)))) (fun _ h => h) tyX0 tyX0_ok nmX0 rfl (ty := .int) (by decide +kernel) rfl rfl dX0_seekAhead_147 (fun H locs hw => ?_)
                      have oo := o_a0
                      obtain ⟨f_16, ef_16⟩ : ∃ g : Nat → va_E, g = pU f_15 a0 14 (.int (iI x_12)) := ⟨_, rfl⟩
                      have hX : Eh cy f_15 f_16 := by rw [ef_16]; exact Eh_pU oo rfl rfl (by decide)
                      have hg : GI cy L0 f_16 := by rw [ef_16]; exact hg.putI oo rfl ⟨lx_12, ux_12⟩ trivial
                      rw [← ef_16] at hw
                      have hE := hE.trans hX
                      have o_a0 := hX.1.1.1 _ _ o_a0
                      have t_a0_13_f_16 : fI f_16 a0 13 = fI f_15 a0 13 := by rw [ef_16]; exact fI_pU (Or.inr (by decide))
                      have vf_16 : fI f_16 a0 14 = x_12 := by rw [ef_16]; exact fI_pU_self oo rfl ⟨lx_12, ux_12⟩
                      have sk2 : Sa (PQ (Q0 (KG g p0) O (g (p0 + 1))) (aI f0 (TA f0 a0)) (aI f0 (KA f0 a0)) (y3_75 + 1)) x1 (fI f_16 a0 13) (fI f_16 a0 14) := by rw [vf_16, t_a0_13_f_16, v13b]; exact sk.yes h88 h96 rfl (by omega) (by omega) (by omega) k138
                      exact J150 L0 f_16 hg hE o_a0 (by first | exact sk.no h88 h96 rfl (by omega) (by omega) (by omega) | exact sk2 | fail "none") _ _ _ hw (lv_sub hl [0, 1, 2] rfl)
                    refine q_icmp_gt (tgt := 138) hx hb dX0_seekAhead_117 (by decide) ⟨lx_10, ux_10⟩ ⟨lx_14, ux_14⟩ (fun c117 => ?_) (fun c117 => ?_)
                    · exact J138 (by omega) _ _ _ hw (lv_sub hl [2, 3, 4, 1, 0] rfl)
                    · refine lv_iload hx hb dX0_seekAhead_120 (lv_at hl 1 rfl) ?_
                      refine lv_aload_n hx hb dX0_seekAhead_122 rfl (lv_at hl 2 rfl) ?_
                      refine q_geti (ci := 0) (C := RX0) (T := TX0) (N := 15) hx hb hts (fun w h => List.mem_cons_of_mem _ (mfX00 w h)) hown hK hw m_a0 o_a0 rfl 13 (by decide) (hts _ (List.mem_cons_of_mem _ (mr29 _ (List.mem_of_getElem? (i := 13) rfl)))) (fun _ h => h) rfl dX0_seekAhead_123 (fun x_17 lx_17 ux_17 ex_17 => ?_)
                      refine q_icmp_ne (tgt := 150) hx hb dX0_seekAhead_126 (by decide) ⟨lx_10, ux_10⟩ ⟨lx_17, ux_17⟩ (fun c126 => ?_) (fun c126 => ?_)
                      · exact J150 L0 fw75 hg hE o_a0 (by first | exact sk.no h88 h96 rfl (by omega) (by omega) (by omega) | exact sk2 | fail "none") _ _ _ hw (lv_sub hl [2, 3, 4] rfl)
                      · refine lv_iload hx hb dX0_seekAhead_129 (lv_at hl 0 rfl) ?_
                        refine lv_aload_n hx hb dX0_seekAhead_131 rfl (lv_at hl 2 rfl) ?_
                        refine q_geti (ci := 0) (C := RX0) (T := TX0) (N := 15) hx hb hts (fun w h => List.mem_cons_of_mem _ (mfX00 w h)) hown hK hw m_a0 o_a0 rfl 14 (by decide) (hts _ (List.mem_cons_of_mem _ (mr29 _ (List.mem_of_getElem? (i := 11) rfl)))) (fun _ h => h) rfl dX0_seekAhead_132 (fun x_18 lx_18 ux_18 ex_18 => ?_)
                        refine q_icmp_le (tgt := 150) hx hb dX0_seekAhead_135 (by decide) ⟨lx_12, ux_12⟩ ⟨lx_18, ux_18⟩ (fun c135 => ?_) (fun c135 => ?_)
                        · exact J150 L0 fw75 hg hE o_a0 (by first | exact sk.no h88 h96 rfl (by omega) (by omega) (by omega) | exact sk2 | fail "none") _ _ _ hw (lv_sub hl [2, 3, 4] rfl)
                        · exact J138 (by omega) _ _ _ hw (lv_sub hl [2, 3, 4, 1, 0] rfl)
          exact J75 ((((2147483647 : Int) - 0).toNat) + 1) 0 (by decide) (by decide) L0 f_6 hg hE o_a0 (by omega) (by omega) (by first | exact sk0 | exact sk1.to (by omega) | fail "none") (by omega) _ _ _ hw (lv_sub hl [1, 2, 0] rfl)
        refine q_icmp_ne (tgt := 65) hx hb dX0_seekAhead_58 (by decide) ⟨ly2_14, uy2_14⟩ ⟨by decide, by decide⟩ (fun c58 => ?_) (fun c58 => ?_)
        · refine lv_aload_n hx hb dX0_seekAhead_65 rfl (lv_at hl 0 rfl) ?_
          refine lv_iload_n hx hb dX0_seekAhead_66 rfl (lv_at hl 2 rfl) ?_
          refine q_call_i hA hK hw (va_runV (As := [.int (iI y2_14)]) (rest := [.ref a0]) ⟨hx, hb, hml, hown, hts⟩ (c_X0_timeOf_q zo l D cy L0 f_5 a0 y2_14 ly2_14 uy2_14 m_a0 o_a0 hg (by omega) (by omega) (by omega) (by omega) _) (cwV 1 hts (gT (inV (mr29 _ (List.mem_of_getElem? (i := 23) rfl)) (mr30 _ (List.mem_of_getElem? (i := 0) rfl)) (mr30 _ (List.mem_of_getElem? (i := 1) rfl)) (mr2 _ (List.mem_of_getElem? (i := 9) rfl)) (mr30 _ (List.mem_of_getElem? (i := 2) rfl)))) rfl rfl rfl (by decide +kernel) ⟨Nat.le_of_ble_eq_true rfl, Nat.le_of_ble_eq_true rfl⟩) (Wd.preV zo hA hZ hw hK m_a0 o_a0 rfl) rfl rfl hl.1 rfl (lv_room (Nat.le_of_ble_eq_true rfl)) dX0_seekAhead_67 ⟨Nat.le_of_ble_eq_true rfl, Nat.le_of_ble_eq_true rfl⟩) (fun x_19 L1 f1 H locs lx_19 ux_19 ex_19 hw => ?_)
          obtain ⟨rfl, rfl, ex_19⟩ := ex_19
          exact J70 x_19 lx_19 ux_19 (by omega) _ _ _ hw (lv_sub hl [0, 1] rfl)
        · refine q_iconst hx hb dX0_seekAhead_61 ?_
          refine lv_goto (tgt := 70) hx hb dX0_seekAhead_62 (by decide) ?_
          exact J70 ((-1)) (by decide) (by decide) (by omega) _ _ _ hw (lv_sub hl [0, 1] rfl)
      refine q_icmp_ge (tgt := 50) hx hb dX0_seekAhead_19 (by decide) ⟨ly3_14, uy3_14⟩ ⟨lx_4, ux_4⟩ (fun c19 => ?_) (fun c19 => ?_)
      · exact J50 (by omega) (by exact lr.out nc hrq (by omega)) _ _ _ hw (lv_sub hl [0, 1, 2] rfl)
      · refine lv_iload_n hx hb dX0_seekAhead_22 rfl (lv_at hl 2 rfl) ?_
        refine q_iconst hx hb dX0_seekAhead_23 ?_
        refine q_icmp_eq (tgt := 50) hx hb dX0_seekAhead_24 (by decide) ⟨ly2_14, uy2_14⟩ ⟨by decide, by decide⟩ (fun c24 => ?_) (fun c24 => ?_)
        · exact J50 (by omega) (by exact lr.out nc hrq (by omega)) _ _ _ hw (lv_sub hl [0, 1, 2] rfl)
        · refine lv_aload_n hx hb dX0_seekAhead_27 rfl (lv_at hl 0 rfl) ?_
          refine lv_iload_n hx hb dX0_seekAhead_28 rfl (lv_at hl 2 rfl) ?_
          refine q_call_i hA hK hw (va_runV (As := [.int (iI y2_14)]) (rest := []) ⟨hx, hb, hml, hown, hts⟩ (c_X0_changeOf_o zo l D cy L0 f0 a0 y2_14 ly2_14 uy2_14 m_a0 o_a0 hg O oc _) (cwV 1 hts (gT (inV (mr26 _ (List.mem_of_getElem? (i := 15) rfl)) (mr26 _ (List.mem_of_getElem? (i := 16) rfl)) (mr26 _ (List.mem_of_getElem? (i := 17) rfl)) (mr2 _ (List.mem_of_getElem? (i := 9) rfl)) (mr26 _ (List.mem_of_getElem? (i := 18) rfl)))) rfl rfl rfl (by decide +kernel) ⟨Nat.le_of_ble_eq_true rfl, Nat.le_of_ble_eq_true rfl⟩) (Wd.preV zo hA hZ hw hK m_a0 o_a0 rfl) rfl rfl hl.1 rfl (lv_room (Nat.le_of_ble_eq_true rfl)) dX0_seekAhead_29 ⟨Nat.le_of_ble_eq_true rfl, Nat.le_of_ble_eq_true rfl⟩) (fun x_20 L1 f1 H locs lx_20 ux_20 ex_20 hw => ?_)
          obtain ⟨rfl, rfl, ex_20⟩ := ex_20
          have h29 := ex_20
          refine q_iconst hx hb dX0_seekAhead_32 ?_
          refine q_icmp_eq (tgt := 50) hx hb dX0_seekAhead_33 (by decide) ⟨lx_20, ux_20⟩ ⟨by decide, by decide⟩ (fun c33 => ?_) (fun c33 => ?_)
          · exact J50 (by omega) (by exact lr.out nc hrq (by omega)) _ _ _ hw (lv_sub hl [0, 1, 2] rfl)
          · refine lv_aload_n hx hb dX0_seekAhead_36 rfl (lv_at hl 0 rfl) ?_
            refine lv_iload_n hx hb dX0_seekAhead_37 rfl (lv_at hl 2 rfl) ?_
            refine q_iconst hx hb dX0_seekAhead_38 ?_
            first | refine q_isub hx hb dX0_seekAhead_39 ⟨by omega, by omega⟩ (fun x_21 lx_21 ux_21 ex_21 => ?_) | refine q_isubw hx hb dX0_seekAhead_39 (fun x_21 lx_21 ux_21 _ => ?_)
            refine q_call_i hA hK hw (va_runV (As := [.int (iI x_21)]) (rest := []) ⟨hx, hb, hml, hown, hts⟩ (c_X0_keyTo_g zo l D cy L0 f0 a0 x_21 lx_21 ux_21 m_a0 o_a0 hg g p0 rb _) (cwV 1 hts (gT (inV (mr31 _ (List.mem_of_getElem? (i := 3) rfl)) (mr31 _ (List.mem_of_getElem? (i := 4) rfl)) (mr31 _ (List.mem_of_getElem? (i := 5) rfl)) (mr2 _ (List.mem_of_getElem? (i := 9) rfl)) (mr31 _ (List.mem_of_getElem? (i := 6) rfl)))) rfl rfl rfl (by decide +kernel) ⟨Nat.le_of_ble_eq_true rfl, Nat.le_of_ble_eq_true rfl⟩) (Wd.preV zo hA hZ hw hK m_a0 o_a0 rfl) rfl rfl hl.1 rfl (lv_room (Nat.le_of_ble_eq_true rfl)) dX0_seekAhead_40 ⟨Nat.le_of_ble_eq_true rfl, Nat.le_of_ble_eq_true rfl⟩) (fun x_22 L1 f1 H locs lx_22 ux_22 ex_22 hw => ?_)
            obtain ⟨rfl, rfl, ex_22⟩ := ex_22
            have f40 := ex_22
            have b40 := f40.kb hrq
            clear ex_22
            refine lv_istore_n (lv' := [(2, .int (iI x_22)), (0, .ref a0), (1, .int (iI x1)), (3, .int (iI y3_14))]) hx hb dX0_seekAhead_43 rfl hl (by decide) rfl (fun ls hl => ?_)
            obtain ⟨x_23, lx_23, ux_23, hx_23, ex_23⟩ := q_inc y3_14 (1)
            try (replace ex_23 : x_23 = y3_14 + (1) := by omega)
            refine lv_iinc (v := iI x_23) (lv' := [(3, .int (iI x_23)), (2, .int (iI x_22)), (0, .ref a0), (1, .int (iI x1))]) hx hb dX0_seekAhead_44 hl (k := 3) rfl hx_23 (by decide) rfl (fun ls hl => ?_)
            refine lv_goto (tgt := 14) hx hb dX0_seekAhead_47 (by decide) ?_
            exact ih14 x_22 lx_22 ux_22 x_23 lx_23 ux_23 (by omega) (by omega) (by first | exact LR.start f8 hrq (by omega) | exact lr.step (by omega) (ch_in h29 (by omega)).2.2.2 f40 (by omega) (by omega) hrq | fail "none") (by omega) _ _ _ hw (lv_sub hl [2, 3, 1, 0] rfl)
  exact J14 ((((2147483647 : Int) - 0).toNat) + 1) x_3 lx_3 ux_3 0 (by decide) (by decide) (by omega) (by omega) (by first | exact LR.start f8 hrq (by omega) | exact lr.step (by omega) (ch_in h29 (by omega)).2.2.2 f40 (by omega) (by omega) hrq | fail "none") (by omega) _ _ _ hw (lv_sub hl [2, 3, 1, 0] rfl)