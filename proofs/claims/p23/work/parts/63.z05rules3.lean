/-! ===== a Booking of the class speaks of a row of the reference ===== -/
def KG (g : Int → Int) (p : Int) : Int → Prop := Ky (onK (g (p + 3)) (g (p + 4)) (g (p + 5)) (g (p + 6)) (g (p + 7))) (g (p + 10)) (HI (g (p + 8))) (g (p + 9))
/-- bounds of a row's numbers -/
def GB (g : Int → Int) (p : Int) : Prop := 0 ≤ g p ∧ g p ≤ 7 ∧ (g (p + 8) = -1 ∨ (g (p + 5) ≤ g (p + 8) ∧ g (p + 8) ≤ 36524)) ∧ (g (p + 9) = -1 ∨ (1 ≤ g (p + 9) ∧ g (p + 9) ≤ 999 ∧ g (p + 8) = -1)) ∧ g (p + 5) ≤ g (p + 10) ∧ g (p + 10) ≤ 36524
/-- what is told of it: words and the rule -/
def RW (f : Nat → va_E) (b : Nat) (g : Int → Int) (p : Int) : Prop := (fI f b 0 = g p ∧ fI f b 1 = g (p + 1) ∧ fI f b 2 = g (p + 2) ∧ fI f b 4 = g (p + 8) ∧ fI f b 5 = g (p + 9) ∧ fI f b 6 = g (p + 10)) ∧ (∃ r : Nat, fR f b 3 = some r ∧ RuK f r (g (p + 3)) (g (p + 4)) (g (p + 5)) (g (p + 6)) (g (p + 7))) ∧ GB g p
def RB (f : Nat → va_E) (b : Nat) (g : Int → Int) (p : Int) : Prop := RW f b g p ∧ Bd (KG g p) (fI f b 7) (fI f b 8) ∧ fI f b 9 = cn (KG g p) 0 36525
theorem RB.rule {f : Nat → va_E} {b : Nat} {g : Int → Int} {p : Int} (h : RB f b g p) : ∃ r : Nat, fR f b 3 = some r ∧ RuK f r (g (p + 3)) (g (p + 4)) (g (p + 5)) (g (p + 6)) (g (p + 7)) := h.1.2.1
theorem RB.lw {f : Nat → va_E} {b : Nat} {g : Int → Int} {p : Int} (h : RB f b g p) : g (p + 5) ≤ g (p + 10) := h.1.2.2.2.2.2.2.1
theorem KG.at {g : Int → Int} {p d : Int} (h : KG g p d) : g (p + 10) ≤ d ∧ d ≤ HI (g (p + 8)) := ⟨h.1, h.2.1⟩
theorem KG.cg {g h : Int → Int} {p q : Int} (e : ∀ j : Int, 3 ≤ j → j ≤ 10 → h (q + j) = g (p + j)) : KG h q = KG g p := by
  unfold KG
  rw [e 3 (by omega) (by omega), e 4 (by omega) (by omega), e 5 (by omega) (by omega), e 6 (by omega) (by omega), e 7 (by omega) (by omega), e 8 (by omega) (by omega), e 9 (by omega) (by omega), e 10 (by omega) (by omega)]
theorem RB.cg {f : Nat → va_E} {b : Nat} {g h : Int → Int} {p q : Int} (r : RB f b g p) (e : ∀ j : Int, 0 ≤ j → j ≤ 10 → h (q + j) = g (p + j)) : RB f b h q := by
  have k := KG.cg (g := g) (h := h) (p := p) (q := q) (fun j j0 j1 => e j (by omega) j1)
  have e0 : h q = g p := by have := e 0 (by omega) (by omega); rwa [Int.add_zero, Int.add_zero] at this
  unfold RB RW GB
  rw [k, e0, e 1 (by omega) (by omega), e 2 (by omega) (by omega), e 3 (by omega) (by omega), e 4 (by omega) (by omega), e 5 (by omega) (by omega), e 6 (by omega) (by omega), e 7 (by omega) (by omega), e 8 (by omega) (by omega), e 9 (by omega) (by omega), e 10 (by omega) (by omega)]
  exact r
/-- a rule stays where its numbers stay -/
theorem RuK.keep {f g : Nat → va_E} {r : Nat} {k n s v w : Int} (h : RuK f r k n s v w) (e : ∀ j : Nat, fV g r j = fV f r j) (o : ∀ ci : Nat, Ob f r ci → Ob g r ci) : RuK g r k n s v w := by
  unfold RuK
  rw [fI_W (e 0), fI_W (e 1), fI_W (e 2), fI_W (e 3), fI_W (e 4), fI_W (e 5), fI_W (e 6)]
  refine ⟨h.1, ?_⟩
  rcases h.2 with ⟨q, z⟩ | ⟨q, z⟩ | ⟨q, z⟩ | ⟨q, z⟩
  · exact Or.inl ⟨o _ q, z⟩
  · exact Or.inr (Or.inl ⟨o _ q, z⟩)
  · exact Or.inr (Or.inr (Or.inl ⟨o _ q, z⟩))
  · exact Or.inr (Or.inr (Or.inr ⟨o _ q, z⟩))
theorem RuK.not0 {f : Nat → va_E} {r : Nat} {k n s v w : Int} (h : RuK f r k n s v w) : ¬ Ob f r 0 := by
  intro o
  rcases h.rl with q | q | q | q
  · exact absurd (o.uniq q) (by decide)
  · exact absurd (o.uniq q) (by decide)
  · exact absurd (o.uniq q) (by decide)
  · exact absurd (o.uniq q) (by decide)
/-- what calls leave that book nothing: all fields but a Booking's changes and what it found, rows of references, the tape -/
def Fz (cy : Cy) (f g : Nat → va_E) : Prop := (∀ y k : Nat, k ≠ 10 → k ≠ 13 → k ≠ 14 → fV g y k = fV f y k) ∧ (∀ y ci k : Nat, Ob f y ci → ci ≠ 0 → fV g y k = fV f y k) ∧ (∀ (y : Nat) (j : Int), aR g y j = aR f y j) ∧ (∀ (y : Nat) (j : Int), ArI f y cy.1 168 → aI g y j = aI f y j)
theorem RB.fz {cy : Cy} {f g : Nat → va_E} {b : Nat} {h : Int → Int} {p : Int} (r : RB f b h p) (z : Fz cy f g) (o : ∀ a ci : Nat, Ob f a ci → Ob g a ci) : RB g b h p := by
  have e : ∀ k : Nat, k ≠ 10 → k ≠ 13 → k ≠ 14 → fV g b k = fV f b k := fun k => z.1 _ k
  obtain ⟨⟨w, ⟨q, er, rk⟩, gb⟩, bd, tt⟩ := r
  unfold RB RW
  rw [fI_W (e 0 (by decide) (by decide) (by decide)), fI_W (e 1 (by decide) (by decide) (by decide)), fI_W (e 2 (by decide) (by decide) (by decide)), fI_W (e 4 (by decide) (by decide) (by decide)), fI_W (e 5 (by decide) (by decide) (by decide)), fI_W (e 6 (by decide) (by decide) (by decide)), fI_W (e 7 (by decide) (by decide) (by decide)), fI_W (e 8 (by decide) (by decide) (by decide)), fI_W (e 9 (by decide) (by decide) (by decide)), fR_W (e 3 (by decide) (by decide) (by decide))]
  exact ⟨⟨w, ⟨q, er, rk.keep (fun j => by rcases rk.rl with q | q | q | q <;> exact z.2.1 _ _ j q (by decide)) (fun ci h0 => o _ _ h0)⟩, gb⟩, bd, tt⟩
/-- a Shelf's rows -/
def SF (f : Nat → va_E) (sh : Nat) (rw : Int → Nat) : Prop := Ob f sh 5 ∧ (∃ a : Nat, fR f sh 0 = some a ∧ ∀ i : Int, 0 ≤ i → i < 12 → aR f a i = some (rw i)) ∧ (∀ i : Int, 0 ≤ i → i < 12 → Ob f (rw i) 0) ∧ ∀ i j : Int, 0 ≤ i → i < 12 → 0 ≤ j → j < 12 → rw i = rw j → i = j
def SR (f : Nat → va_E) (sh : Nat) (rw : Int → Nat) (g : Int → Int) (m : Int) : Prop := SF f sh rw ∧ fI f sh 1 = m ∧ ∀ i : Int, 0 ≤ i → i < m → RB f (rw i) g (44 * i)
theorem SR.row {f : Nat → va_E} {sh x : Nat} {rw : Int → Nat} {g : Int → Int} {m i : Int} (h : SR f sh rw g m) (e : ∃ a : Nat, fR f sh 0 = some a ∧ aR f a i = some x) (h0 : 0 ≤ i) (h1 : i < 12) : x = rw i := by
  obtain ⟨a, e1, e2⟩ := e
  obtain ⟨b, b1, b2⟩ := h.1.2.1
  have z := Option.some.inj (e1.symm.trans b1)
  rw [z] at e2
  exact Option.some.inj (e2.symm.trans (b2 i h0 h1))
theorem SR.rb {f : Nat → va_E} {sh x : Nat} {rw : Int → Nat} {g : Int → Int} {m i : Int} (h : SR f sh rw g m) (e : ∃ a : Nat, fR f sh 0 = some a ∧ aR f a i = some x) (h0 : 0 ≤ i) (h1 : i < m) (h2 : i < 12) : RB f x g (44 * i) := by
  rw [h.row e h0 h2]
  exact h.2.2 i h0 h1
theorem SR.fz {cy : Cy} {f g : Nat → va_E} {sh : Nat} {rw : Int → Nat} {h : Int → Int} {m : Int} (r : SR f sh rw h m) (z : Fz cy f g) (o : ∀ a ci : Nat, Ob f a ci → Ob g a ci) : SR g sh rw h m := by
  obtain ⟨⟨o5, ⟨a, ea, ha⟩, ho, hi⟩, hm, hb⟩ := r
  refine ⟨⟨o _ _ o5, ⟨a, (fR_W (z.2.1 _ _ _ o5 (by decide))).trans ea, fun i i0 i1 => (z.2.2.1 _ _).trans (ha i i0 i1)⟩, fun i i0 i1 => o _ _ (ho i i0 i1), hi⟩, (fI_W (z.2.1 _ _ _ o5 (by decide))).trans hm, fun i i0 i1 => (hb i i0 i1).fz z o⟩
/-- the BookIndex's own shelf -/
def SX (f : Nat → va_E) (x : Nat) (rw : Int → Nat) (g : Int → Int) (m : Int) : Prop := ∃ sh : Nat, fR f x 2 = some sh ∧ SR f sh rw g m ∧ 0 ≤ m ∧ m ≤ 12
theorem SX.at {f : Nat → va_E} {x sh : Nat} {rw : Int → Nat} {g : Int → Int} {m : Int} (h : SX f x rw g m) (e : fR f x 2 = some sh) : SR f sh rw g m ∧ fI f sh 1 = m ∧ 0 ≤ m ∧ m ≤ 12 := by
  obtain ⟨s, e1, e2, e3, e4⟩ := h
  rw [Option.some.inj (e.symm.trans e1)]
  exact ⟨e2, e2.2.1, e3, e4⟩

theorem Fz.refl (cy : Cy) (f : Nat → va_E) : Fz cy f f := ⟨fun _ _ _ _ _ => rfl, fun _ _ _ _ _ => rfl, fun _ _ => rfl, fun _ _ _ => rfl⟩
theorem aR_cg {f : Nat → va_E} {a : Nat} {x y : Int} (h : x = y) : aR f a x = aR f a y := by rw [h]
/-! ===== Ex, and what the relation needs ===== -/
def Ef (cy : Cy) (f g : Nat → va_E) : Prop := Ex cy f g ∧ Fz cy f g
theorem Ef.refl (cy : Cy) (f : Nat → va_E) : Ef cy f f := ⟨Ex.refl cy f, Fz.refl cy f⟩
theorem Fz.trans {cy : Cy} {f g h : Nat → va_E} (s : Sh f g) (a : Fz cy f g) (b : Fz cy g h) : Fz cy f h :=
  ⟨fun y k h1 h2 h3 => (b.1 y k h1 h2 h3).trans (a.1 y k h1 h2 h3), fun y ci k o h0 => (b.2.1 y ci k (s.1 _ _ o) h0).trans (a.2.1 y ci k o h0), fun y j => (b.2.2.1 y j).trans (a.2.2.1 y j), fun y j o => (b.2.2.2 y j (s.2.1 _ _ _ o)).trans (a.2.2.2 y j o)⟩
theorem Ef.trans {cy : Cy} {f g h : Nat → va_E} (a : Ef cy f g) (b : Ef cy g h) : Ef cy f h := ⟨a.1.trans b.1, a.2.trans a.1.1 b.2⟩
theorem Ef_pU {cy : Cy} {f : Nat → va_E} {a k ty : Nat} {v : Value} (h : Ob f a 0) (hk : (sg 0)[k]? = some ty) (hv : tyv v = ty) (k3 : k = 10 ∨ k = 13 ∨ k = 14) : Ef cy f (pU f a k v) := by
  refine ⟨Ex_pU h hk hv (by decide), fun y j h1 h2 h3 => fV_pU (Or.inr (by omega)), fun y ci j o h0 => fV_pU (Or.inl (fun e => h0 ?_)), fun y j => aR_pU h, fun y j o => aI_pU h⟩
  rw [e] at o
  exact o.uniq h
theorem ArI_len {f : Nat → va_E} {a n m : Nat} {cA cB : ClassId} (h : ArI f a cA n) (g : ArI f a cB m) : n = m := by
  obtain ⟨x, hx⟩ := h
  obtain ⟨y, hy⟩ := g
  rw [hx] at hy
  cases hy
  rfl
theorem Ef_aU {cy : Cy} {f : Nat → va_E} {a : Nat} {cA : ClassId} {j : Int} {v : Int32} (h : ArI f a cA 16) : Ef cy f (aU f a j v) := by
  refine ⟨Ex_aU h, fun y k _ _ _ => fV_aU h, fun y ci k _ _ => fV_aU h, fun y k => aR_aU h, fun y k o => aI_aU_ne (fun e => ?_)⟩
  rw [e] at o
  exact absurd (ArI_len h o) (by decide)
set_option maxHeartbeats 4000000 in
set_option maxRecDepth 100000 in
theorem c_X0_keyFrom_g {Z : Zt} (zo : Zok Z) (l : Launch) (D : va_G) (cy : Cy) (L0 : List Nat) (f0 : Nat → va_E) (a0 : Nat) (x1 : Int) (lx1 : -2147483648 ≤ x1) (ux1 : x1 ≤ 2147483647) (m_a0 : a0 ∈ L0) (o_a0 : Ob f0 a0 0) (hg : GI cy L0 f0) (g : Int → Int) (p0 : Int) (rb : RB f0 a0 g p0) : Ci Z l yX0_keyFrom (Cond.code yX0_keyFrom cX0_keyFrom 2 (some .int) :: TB) ({ frames := 3, cells := 0, slots := 0, locals := 69 } : Room) 0 0 D (tq cy) [.ref a0, .int (iI x1)] L0 f0 (fun (r : Int) (L1 : List Nat) (f1 : Nat → va_E) => L0 = L1 ∧ f0 = f1 ∧ (Fst (KG g p0) x1 r)) := by
  obtain ⟨r0, er, rk⟩ := rb.rule
  exact c_X0_keyFrom_f zo l D cy L0 f0 a0 x1 lx1 ux1 m_a0 o_a0 hg r0 er _ _ _ _ _ rk _ _ _ rb.2.1 rb.lw
set_option maxHeartbeats 4000000 in
set_option maxRecDepth 100000 in
theorem c_X0_keyTo_g {Z : Zt} (zo : Zok Z) (l : Launch) (D : va_G) (cy : Cy) (L0 : List Nat) (f0 : Nat → va_E) (a0 : Nat) (x1 : Int) (lx1 : -2147483648 ≤ x1) (ux1 : x1 ≤ 2147483647) (m_a0 : a0 ∈ L0) (o_a0 : Ob f0 a0 0) (hg : GI cy L0 f0) (g : Int → Int) (p0 : Int) (rb : RB f0 a0 g p0) : Ci Z l yX0_keyTo (Cond.code yX0_keyTo cX0_keyTo 2 (some .int) :: TB) ({ frames := 3, cells := 0, slots := 0, locals := 67 } : Room) 0 0 D (tq cy) [.ref a0, .int (iI x1)] L0 f0 (fun (r : Int) (L1 : List Nat) (f1 : Nat → va_E) => L0 = L1 ∧ f0 = f1 ∧ (Lst (KG g p0) x1 r)) := by
  obtain ⟨r0, er, rk⟩ := rb.rule
  exact c_X0_keyTo_f zo l D cy L0 f0 a0 x1 lx1 ux1 m_a0 o_a0 hg r0 er _ _ _ _ _ rk _ _ _ rb.2.1 rb.lw
set_option maxHeartbeats 4000000 in
set_option maxRecDepth 100000 in
theorem c_X0_keysIn_g {Z : Zt} (zo : Zok Z) (l : Launch) (D : va_G) (cy : Cy) (L0 : List Nat) (f0 : Nat → va_E) (a0 : Nat) (x1 : Int) (lx1 : -2147483648 ≤ x1) (ux1 : x1 ≤ 2147483647) (x2 : Int) (lx2 : -2147483648 ≤ x2) (ux2 : x2 ≤ 2147483647) (m_a0 : a0 ∈ L0) (o_a0 : Ob f0 a0 0) (hg : GI cy L0 f0) (g : Int → Int) (p0 : Int) (rb : RB f0 a0 g p0) : Ci Z l yX0_keysIn (Cond.code yX0_keysIn cX0_keysIn 5 (some .int) :: TB) ({ frames := 3, cells := 0, slots := 0, locals := 72 } : Room) 0 0 D (tq cy) [.ref a0, .int (iI x1), .int (iI x2)] L0 f0 (fun (r : Int) (L1 : List Nat) (f1 : Nat → va_E) => L0 = L1 ∧ f0 = f1 ∧ (r = cn (KG g p0) x1 (x2 + 1))) := by
  obtain ⟨r0, er, rk⟩ := rb.rule
  exact c_X0_keysIn_f zo l D cy L0 f0 a0 x1 lx1 ux1 x2 lx2 ux2 m_a0 o_a0 hg r0 er _ _ _ _ _ rk _ _ _ rb.2.1 rb.lw
set_option maxHeartbeats 4000000 in
set_option maxRecDepth 100000 in
theorem c_X0_isKey_g {Z : Zt} (zo : Zok Z) (l : Launch) (D : va_G) (cy : Cy) (L0 : List Nat) (f0 : Nat → va_E) (a0 : Nat) (x1 : Int) (lx1 : -2147483648 ≤ x1) (ux1 : x1 ≤ 2147483647) (m_a0 : a0 ∈ L0) (o_a0 : Ob f0 a0 0) (hg : GI cy L0 f0) (g : Int → Int) (p0 : Int) (rb : RB f0 a0 g p0) : Ci Z l yX0_isKey (Cond.code yX0_isKey cX0_isKey 2 (some .boolean) :: TB) ({ frames := 4, cells := 0, slots := 0, locals := 90 } : Room) 0 0 D (tq cy) [.ref a0, .int (iI x1)] L0 f0 (fun (r : Int) (L1 : List Nat) (f1 : Nat → va_E) => L0 = L1 ∧ f0 = f1 ∧ ((r = 1 ∧ 0 ≤ x1 ∧ x1 ≤ 36524 ∧ KG g p0 x1) ∨ (r = 0 ∧ ¬ (0 ≤ x1 ∧ x1 ≤ 36524 ∧ KG g p0 x1)))) := by
  obtain ⟨r0, er, rk⟩ := rb.rule
  exact c_X0_isKey_f zo l D cy L0 f0 a0 x1 lx1 ux1 m_a0 o_a0 hg r0 er _ _ _ _ _ rk _ _ _ rb.2.1 rb.lw
set_option maxHeartbeats 4000000 in
set_option maxRecDepth 100000 in
theorem c_X7_has_f {Z : Zt} (zo : Zok Z) (l : Launch) (D : va_G) (cy : Cy) (L0 : List Nat) (f0 : Nat → va_E) (a0 : Nat) (x1 : Int) (lx1 : -2147483648 ≤ x1) (ux1 : x1 ≤ 2147483647) (m_a0 : a0 ∈ L0) (o_a0 : Ob f0 a0 5) (hg : GI cy L0 f0) : Ci Z l yX7_has (Cond.code yX7_has cX7_has 2 (some .boolean) :: TB) ({ frames := 0, cells := 0, slots := 0, locals := 0 } : Room) 0 0 D (tq cy) [.ref a0, .int (iI x1)] L0 f0 (fun (r : Int) (L1 : List Nat) (f1 : Nat → va_E) => L0 = L1 ∧ f0 = f1 ∧ (r = 1 ∧ 0 ≤ x1 ∧ x1 < 12 ∧ x1 < fI f0 a0 1 ∨ r = 0 ∧ (x1 < 0 ∨ fI f0 a0 1 ≤ x1))) := by
  refine Ci.enter (cc := cX7_has) (n := 2) rfl (plainFor_of_name (by decide)) (Nat.le_of_ble_eq_true rfl) ?_
  intro p e s m below meth c ls A hx hb hr hts hown hlocks hnm hml hK hA hAe hw hZ hl
  have hown : s.vm.findClass RX7 = some m.cls := hown
  have hl : lv_has ls 2 [(0, .ref a0), (1, .int (iI x1))] := hl
  have hN : ZN s := (zo.2.2.2.2 _ _ _ hZ).2
  refine lv_iload_n hx hb dX7_has_0 rfl (lv_at hl 1 rfl) ?_
  refine q_if_lt (tgt := 16) hx hb dX7_has_1 (by decide) ⟨lx1, ux1⟩ (fun c1 => ?_) (fun c1 => ?_)
  · refine q_iconst hx hb dX7_has_16 ?_
    exact q_ret_z hx hb hr hlocks hK hAe hw (by omega) (Nat.le_of_ble_eq_true rfl) (Nat.le_of_ble_eq_true rfl) dX7_has_17 ⟨rfl, rfl, by omega⟩
  · refine lv_iload_n hx hb dX7_has_4 rfl (lv_at hl 1 rfl) ?_
    refine lv_aload_n hx hb dX7_has_5 rfl (lv_at hl 0 rfl) ?_
    refine q_geti (ci := 5) (C := RX7) (T := TX7) (N := 2) hx hb hts (fun w h => List.mem_cons_of_mem _ (mfX70 w h)) hown hK hw m_a0 o_a0 rfl 1 (by decide) (hts _ (List.mem_cons_of_mem _ (mr2 _ (List.mem_of_getElem? (i := 4) rfl)))) (fun _ h => h) rfl dX7_has_6 (fun x_1 lx_1 ux_1 ex_1 => ?_)
    have bx_1 : 0 ≤ x_1 ∧ x_1 ≤ 12 := by rw [ex_1]; exact hg.1 _ m_a0 5 1 o_a0
    refine q_icmp_ge (tgt := 16) hx hb dX7_has_9 (by decide) ⟨lx1, ux1⟩ ⟨lx_1, ux_1⟩ (fun c9 => ?_) (fun c9 => ?_)
    · refine q_iconst hx hb dX7_has_16 ?_
      exact q_ret_z hx hb hr hlocks hK hAe hw (by omega) (Nat.le_of_ble_eq_true rfl) (Nat.le_of_ble_eq_true rfl) dX7_has_17 ⟨rfl, rfl, by omega⟩
    · refine q_iconst hx hb dX7_has_12 ?_
      refine lv_goto (tgt := 17) hx hb dX7_has_13 (by decide) ?_
      exact q_ret_z hx hb hr hlocks hK hAe hw (by omega) (Nat.le_of_ble_eq_true rfl) (Nat.le_of_ble_eq_true rfl) dX7_has_17 ⟨rfl, rfl, by omega⟩
set_option maxHeartbeats 4000000 in
set_option maxRecDepth 100000 in
theorem c_X7_isFull_f {Z : Zt} (zo : Zok Z) (l : Launch) (D : va_G) (cy : Cy) (L0 : List Nat) (f0 : Nat → va_E) (a0 : Nat) (m_a0 : a0 ∈ L0) (o_a0 : Ob f0 a0 5) (hg : GI cy L0 f0) : Ci Z l yX7_isFull (Cond.code yX7_isFull cX7_isFull 1 (some .boolean) :: TB) ({ frames := 0, cells := 0, slots := 0, locals := 0 } : Room) 0 0 D (tq cy) [.ref a0] L0 f0 (fun (r : Int) (L1 : List Nat) (f1 : Nat → va_E) => L0 = L1 ∧ f0 = f1 ∧ (r = 1 ∧ 12 ≤ fI f0 a0 1 ∨ r = 0 ∧ fI f0 a0 1 < 12)) := by
  refine Ci.enter (cc := cX7_isFull) (n := 1) rfl (plainFor_of_name (by decide)) (Nat.le_of_ble_eq_true rfl) ?_
  intro p e s m below meth c ls A hx hb hr hts hown hlocks hnm hml hK hA hAe hw hZ hl
  have hown : s.vm.findClass RX7 = some m.cls := hown
  have hl : lv_has ls 1 [(0, .ref a0)] := hl
  have hN : ZN s := (zo.2.2.2.2 _ _ _ hZ).2
  refine lv_aload_n hx hb dX7_isFull_0 rfl (lv_at hl 0 rfl) ?_
  refine q_geti (ci := 5) (C := RX7) (T := TX7) (N := 2) hx hb hts (fun w h => List.mem_cons_of_mem _ (mfX70 w h)) hown hK hw m_a0 o_a0 rfl 1 (by decide) (hts _ (List.mem_cons_of_mem _ (mr2 _ (List.mem_of_getElem? (i := 4) rfl)))) (fun _ h => h) rfl dX7_isFull_1 (fun x_1 lx_1 ux_1 ex_1 => ?_)
  have bx_1 : 0 ≤ x_1 ∧ x_1 ≤ 12 := by rw [ex_1]; exact hg.1 _ m_a0 5 1 o_a0
  refine lv_aload_n hx hb dX7_isFull_4 rfl (lv_at hl 0 rfl) ?_
  obtain ⟨r_2, er_2, m_r_2, o_r_2⟩ := (show ∃ r, fR f0 a0 0 = some r ∧ r ∈ L0 ∧ ArR f0 r cy.2.2.2.1 12 from hg.2.1 _ m_a0 5 0 o_a0)
  refine q_getr (ci := 5) (C := RX7) (T := TX7) (N := 2) hx hb hts (fun w h => List.mem_cons_of_mem _ (mfX70 w h)) hown hK hw m_a0 o_a0 rfl 0 (by decide) (hts _ (List.mem_cons_of_mem _ (mr2 _ (List.mem_of_getElem? (i := 3) rfl)))) (fun _ h => h) rfl er_2 dX7_isFull_5 ?_
  refine q_alenR hx hb hK hw m_r_2 3 o_r_2 rfl dX7_isFull_8 ?_
  refine q_icmp_lt (tgt := 16) hx hb dX7_isFull_9 (by decide) ⟨lx_1, ux_1⟩ ⟨by decide, by decide⟩ (fun c9 => ?_) (fun c9 => ?_)
  · refine q_iconst hx hb dX7_isFull_16 ?_
    exact q_ret_z hx hb hr hlocks hK hAe hw (by omega) (Nat.le_of_ble_eq_true rfl) (Nat.le_of_ble_eq_true rfl) dX7_isFull_17 ⟨rfl, rfl, by omega⟩
  · refine q_iconst hx hb dX7_isFull_12 ?_
    refine lv_goto (tgt := 17) hx hb dX7_isFull_13 (by decide) ?_
    exact q_ret_z hx hb hr hlocks hK hAe hw (by omega) (Nat.le_of_ble_eq_true rfl) (Nat.le_of_ble_eq_true rfl) dX7_isFull_17 ⟨rfl, rfl, by omega⟩
set_option maxHeartbeats 4000000 in
set_option maxRecDepth 100000 in
theorem c_X7_at_f {Z : Zt} (zo : Zok Z) (l : Launch) (D : va_G) (cy : Cy) (L0 : List Nat) (f0 : Nat → va_E) (a0 : Nat) (x1 : Int) (lx1 : -2147483648 ≤ x1) (ux1 : x1 ≤ 2147483647) (m_a0 : a0 ∈ L0) (o_a0 : Ob f0 a0 5) (hg : GI cy L0 f0) (h1 : 0 ≤ x1) (h2 : x1 < 12) : Cr Z l yX7_at (Cond.code yX7_at cX7_at 2 (some (.object "BookIndex$Booking")) :: TB) ({ frames := 0, cells := 0, slots := 0, locals := 0 } : Room) 0 0 D (tq cy) [.ref a0, .int (iI x1)] L0 f0 (fun (r : Nat) (L1 : List Nat) (f1 : Nat → va_E) => L0 = L1 ∧ f0 = f1 ∧ (r ∈ L0 ∧ Ob f0 r 0 ∧ ∃ a : Nat, fR f0 a0 0 = some a ∧ aR f0 a x1 = some r)) := by
  refine Cr.enter (cc := cX7_at) (n := 2) rfl (plainFor_of_name (by decide)) (Nat.le_of_ble_eq_true rfl) ?_
  intro p e s m below meth c ls A hx hb hr hts hown hlocks hnm hml hK hA hAe hw hZ hl
  have hown : s.vm.findClass RX7 = some m.cls := hown
  have hl : lv_has ls 2 [(0, .ref a0), (1, .int (iI x1))] := hl
  have hN : ZN s := (zo.2.2.2.2 _ _ _ hZ).2
  refine lv_aload_n hx hb dX7_at_0 rfl (lv_at hl 0 rfl) ?_
  obtain ⟨r_1, er_1, m_r_1, o_r_1⟩ := (show ∃ r, fR f0 a0 0 = some r ∧ r ∈ L0 ∧ ArR f0 r cy.2.2.2.1 12 from hg.2.1 _ m_a0 5 0 o_a0)
  refine q_getr (ci := 5) (C := RX7) (T := TX7) (N := 2) hx hb hts (fun w h => List.mem_cons_of_mem _ (mfX70 w h)) hown hK hw m_a0 o_a0 rfl 0 (by decide) (hts _ (List.mem_cons_of_mem _ (mr2 _ (List.mem_of_getElem? (i := 3) rfl)))) (fun _ h => h) rfl er_1 dX7_at_1 ?_
  have h1_ := er_1
  refine lv_iload_n hx hb dX7_at_4 rfl (lv_at hl 1 rfl) ?_
  obtain ⟨r_2, er_2, m_r_2, o_r_2⟩ := hg.2.2.1 _ m_r_1 x1 o_r_1 (by omega) (by omega)
  refine q_aald hx hb hK hw m_r_1 3 o_r_1 rfl ⟨lx1, ux1⟩ (by omega) (by omega) er_2 dX7_at_5 ?_
  show W _ _ _ _ _ _ _ _ _ _ _ _ _ _ _ (F0 m 6 ls (.ref r_2 :: []))
  have h5_ := er_2
  exact q_ret_r hx hb hr hlocks hK hAe hw (Nat.le_of_ble_eq_true rfl) (Nat.le_of_ble_eq_true rfl) dX7_at_6 ⟨rfl, rfl, by exact ⟨m_r_2, o_r_2, _, h1_, h5_⟩⟩
set_option maxHeartbeats 4000000 in
set_option maxRecDepth 100000 in
theorem c_X7_spare_f {Z : Zt} (zo : Zok Z) (l : Launch) (D : va_G) (cy : Cy) (L0 : List Nat) (f0 : Nat → va_E) (a0 : Nat) (m_a0 : a0 ∈ L0) (o_a0 : Ob f0 a0 5) (hg : GI cy L0 f0) (h2 : fI f0 a0 1 < 12) : Cr Z l yX7_spare (Cond.code yX7_spare cX7_spare 1 (some (.object "BookIndex$Booking")) :: TB) ({ frames := 1, cells := 0, slots := 0, locals := 21 } : Room) 0 0 D (tq cy) [.ref a0] L0 f0 (fun (r : Nat) (L1 : List Nat) (f1 : Nat → va_E) => L0 = L1 ∧ f0 = f1 ∧ (r ∈ L0 ∧ Ob f0 r 0 ∧ ∃ a : Nat, fR f0 a0 0 = some a ∧ aR f0 a (fI f0 a0 1) = some r)) := by
  refine Cr.enter (cc := cX7_spare) (n := 1) rfl (plainFor_of_name (by decide)) (Nat.le_of_ble_eq_true rfl) ?_
  intro p e s m below meth c ls A hx hb hr hts hown hlocks hnm hml hK hA hAe hw hZ hl
  have hown : s.vm.findClass RX7 = some m.cls := hown
  have hl : lv_has ls 1 [(0, .ref a0)] := hl
  have hN : ZN s := (zo.2.2.2.2 _ _ _ hZ).2
  refine lv_aload_n hx hb dX7_spare_0 rfl (lv_at hl 0 rfl) ?_
  obtain ⟨r_1, er_1, m_r_1, o_r_1⟩ := (show ∃ r, fR f0 a0 0 = some r ∧ r ∈ L0 ∧ ArR f0 r cy.2.2.2.1 12 from hg.2.1 _ m_a0 5 0 o_a0)
  refine q_getr (ci := 5) (C := RX7) (T := TX7) (N := 2) hx hb hts (fun w h => List.mem_cons_of_mem _ (mfX70 w h)) hown hK hw m_a0 o_a0 rfl 0 (by decide) (hts _ (List.mem_cons_of_mem _ (mr2 _ (List.mem_of_getElem? (i := 3) rfl)))) (fun _ h => h) rfl er_1 dX7_spare_1 ?_
  have h1_ := er_1
  refine lv_aload_n hx hb dX7_spare_4 rfl (lv_at hl 0 rfl) ?_
  refine q_geti (ci := 5) (C := RX7) (T := TX7) (N := 2) hx hb hts (fun w h => List.mem_cons_of_mem _ (mfX70 w h)) hown hK hw m_a0 o_a0 rfl 1 (by decide) (hts _ (List.mem_cons_of_mem _ (mr2 _ (List.mem_of_getElem? (i := 4) rfl)))) (fun _ h => h) rfl dX7_spare_5 (fun x_2 lx_2 ux_2 ex_2 => ?_)
  have bx_2 : 0 ≤ x_2 ∧ x_2 ≤ 12 := by rw [ex_2]; exact hg.1 _ m_a0 5 1 o_a0
  refine lv_aload_n hx hb dX7_spare_8 rfl (lv_at hl 0 rfl) ?_
  refine q_getr (ci := 5) (C := RX7) (T := TX7) (N := 2) hx hb hts (fun w h => List.mem_cons_of_mem _ (mfX70 w h)) hown hK hw m_a0 o_a0 rfl 0 (by decide) (hts _ (List.mem_cons_of_mem _ (mr2 _ (List.mem_of_getElem? (i := 3) rfl)))) (fun _ h => h) rfl er_1 dX7_spare_9 ?_
  refine q_alenR hx hb hK hw m_r_1 3 o_r_1 rfl dX7_spare_12 ?_
  refine q_iconst hx hb dX7_spare_13 ?_
  first | refine q_isub hx hb dX7_spare_14 ⟨by omega, by omega⟩ (fun x_3 lx_3 ux_3 ex_3 => ?_) | refine q_isubw hx hb dX7_spare_14 (fun x_3 lx_3 ux_3 _ => ?_)
  refine q_min hx hb (hml.trans hl.1.symm) hown (hts _ (List.mem_cons_of_mem _ (mr6 _ (List.mem_of_getElem? (i := 21) rfl)))) (hts _ (List.mem_cons_of_mem _ (mr6 _ (List.mem_of_getElem? (i := 13) rfl)))) (hts _ (List.mem_cons_of_mem _ (mr6 _ (List.mem_of_getElem? (i := 14) rfl)))) (hts _ (List.mem_cons_of_mem _ (mr6 _ (List.mem_of_getElem? (i := 15) rfl)))) (Nat.le_of_ble_eq_true rfl) (Nat.le_of_ble_eq_true rfl) (Nat.le_of_ble_eq_true rfl) (Nat.le_of_ble_eq_true rfl) ⟨lx_2, ux_2⟩ ⟨lx_3, ux_3⟩ dX7_spare_15 (fun x_4 lx_4 ux_4 ex_4 => ?_)
  obtain ⟨r_5, er_5, m_r_5, o_r_5⟩ := hg.2.2.1 _ m_r_1 x_4 o_r_1 (by omega) (by omega)
  refine q_aald hx hb hK hw m_r_1 3 o_r_1 rfl ⟨lx_4, ux_4⟩ (by omega) (by omega) er_5 dX7_spare_18 ?_
  show W _ _ _ _ _ _ _ _ _ _ _ _ _ _ _ (F0 m 19 ls (.ref r_5 :: []))
  have h5_ := er_5
  exact q_ret_r hx hb hr hlocks hK hAe hw (Nat.le_of_ble_eq_true rfl) (Nat.le_of_ble_eq_true rfl) dX7_spare_19 ⟨rfl, rfl, by exact ⟨m_r_5, o_r_5, _, h1_, (aR_cg (by omega)).trans h5_⟩⟩
set_option maxHeartbeats 4000000 in
set_option maxRecDepth 100000 in
theorem c_X9_areDays_f {Z : Zt} (zo : Zok Z) (l : Launch) (D : va_G) (cy : Cy) (L0 : List Nat) (f0 : Nat → va_E) (x0 : Int) (lx0 : -2147483648 ≤ x0) (ux0 : x0 ≤ 2147483647) (x1 : Int) (lx1 : -2147483648 ≤ x1) (ux1 : x1 ≤ 2147483647) (x2 : Int) (lx2 : -2147483648 ≤ x2) (ux2 : x2 ≤ 2147483647) : Ci Z l yX9_areDays (Cond.code yX9_areDays cX9_areDays 3 (some .boolean) :: TB) ({ frames := 1, cells := 0, slots := 0, locals := 20 } : Room) 0 0 D (tq cy) [.int (iI x0), .int (iI x1), .int (iI x2)] L0 f0 (fun (r : Int) (L1 : List Nat) (f1 : Nat → va_E) => L0 = L1 ∧ f0 = f1 ∧ (r = 1 ∧ 0 ≤ x0 ∧ x0 ≤ x1 ∧ x1 ≤ 36524 ∧ x1 - x0 < x2 ∨ r = 0 ∧ (x0 < 0 ∨ 36524 < x0 ∨ x1 < 0 ∨ 36524 < x1 ∨ x1 < x0 ∨ x2 ≤ x1 - x0))) := by
  refine Ci.enter (cc := cX9_areDays) (n := 3) rfl (plainFor_of_name (by decide)) (Nat.le_of_ble_eq_true rfl) ?_
  intro p e s m below meth c ls A hx hb hr hts hown hlocks hnm hml hK hA hAe hw hZ hl
  have hown : s.vm.findClass RX9 = some m.cls := hown
  have hl : lv_has ls 3 [(0, .int (iI x0)), (1, .int (iI x1)), (2, .int (iI x2))] := hl
  have hN : ZN s := (zo.2.2.2.2 _ _ _ hZ).2
  refine lv_iload_n hx hb dX9_areDays_0 rfl (lv_at hl 0 rfl) ?_
  refine q_call_i hA hK hw (va_runS (As := [.int (iI x0)]) (rest := []) ⟨hx, hb, hml, hown, hts⟩ (c_X9_isDay zo l D cy L0 f0 x0 lx0 ux0 _) (va_cwS 1 hts (gT (inS (mr23 _ (List.mem_of_getElem? (i := 13) rfl)) (mr23 _ (List.mem_of_getElem? (i := 14) rfl)) (mr1 _ (List.mem_of_getElem? (i := 2) rfl)) (mr23 _ (List.mem_of_getElem? (i := 15) rfl)))) rfl rfl rfl (by decide +kernel) ⟨Nat.le_of_ble_eq_true rfl, Nat.le_of_ble_eq_true rfl⟩) (Wd.preS zo hA hZ hw hK) rfl rfl hl.1 rfl (lv_room (Nat.le_of_ble_eq_true rfl)) dX9_areDays_1 ⟨Nat.le_of_ble_eq_true rfl, Nat.le_of_ble_eq_true rfl⟩) (fun x_1 L1 f1 H locs lx_1 ux_1 ex_1 hw => ?_)
  obtain ⟨rfl, rfl, ex_1⟩ := ex_1
  refine q_if_eq (tgt := 30) hx hb dX9_areDays_4 (by decide) ⟨lx_1, ux_1⟩ (fun c4 => ?_) (fun c4 => ?_)
  · refine q_iconst hx hb dX9_areDays_30 ?_
    exact q_ret_z hx hb hr hlocks hK hAe hw (by omega) (Nat.le_of_ble_eq_true rfl) (Nat.le_of_ble_eq_true rfl) dX9_areDays_31 ⟨rfl, rfl, by omega⟩
  · refine lv_iload_n hx hb dX9_areDays_7 rfl (lv_at hl 1 rfl) ?_
    refine q_call_i hA hK hw (va_runS (As := [.int (iI x1)]) (rest := []) ⟨hx, hb, hml, hown, hts⟩ (c_X9_isDay zo l D cy L0 f0 x1 lx1 ux1 _) (va_cwS 1 hts (gT (inS (mr23 _ (List.mem_of_getElem? (i := 13) rfl)) (mr23 _ (List.mem_of_getElem? (i := 14) rfl)) (mr1 _ (List.mem_of_getElem? (i := 2) rfl)) (mr23 _ (List.mem_of_getElem? (i := 15) rfl)))) rfl rfl rfl (by decide +kernel) ⟨Nat.le_of_ble_eq_true rfl, Nat.le_of_ble_eq_true rfl⟩) (Wd.preS zo hA hZ hw hK) rfl rfl hl.1 rfl (lv_room (Nat.le_of_ble_eq_true rfl)) dX9_areDays_8 ⟨Nat.le_of_ble_eq_true rfl, Nat.le_of_ble_eq_true rfl⟩) (fun x_2 L1 f1 H locs lx_2 ux_2 ex_2 hw => ?_)
    obtain ⟨rfl, rfl, ex_2⟩ := ex_2
    refine q_if_eq (tgt := 30) hx hb dX9_areDays_11 (by decide) ⟨lx_2, ux_2⟩ (fun c11 => ?_) (fun c11 => ?_)
    · refine q_iconst hx hb dX9_areDays_30 ?_
      exact q_ret_z hx hb hr hlocks hK hAe hw (by omega) (Nat.le_of_ble_eq_true rfl) (Nat.le_of_ble_eq_true rfl) dX9_areDays_31 ⟨rfl, rfl, by omega⟩
    · refine lv_iload_n hx hb dX9_areDays_14 rfl (lv_at hl 0 rfl) ?_
      refine lv_iload_n hx hb dX9_areDays_15 rfl (lv_at hl 1 rfl) ?_
      refine q_icmp_gt (tgt := 30) hx hb dX9_areDays_16 (by decide) ⟨lx0, ux0⟩ ⟨lx1, ux1⟩ (fun c16 => ?_) (fun c16 => ?_)
      · refine q_iconst hx hb dX9_areDays_30 ?_
        exact q_ret_z hx hb hr hlocks hK hAe hw (by omega) (Nat.le_of_ble_eq_true rfl) (Nat.le_of_ble_eq_true rfl) dX9_areDays_31 ⟨rfl, rfl, by omega⟩
      · refine lv_iload_n hx hb dX9_areDays_19 rfl (lv_at hl 1 rfl) ?_
        refine lv_iload_n hx hb dX9_areDays_20 rfl (lv_at hl 0 rfl) ?_
        first | refine q_isub hx hb dX9_areDays_21 ⟨by omega, by omega⟩ (fun x_3 lx_3 ux_3 ex_3 => ?_) | refine q_isubw hx hb dX9_areDays_21 (fun x_3 lx_3 ux_3 ex_3 => ?_)
        refine lv_iload_n hx hb dX9_areDays_22 rfl (lv_at hl 2 rfl) ?_
        refine q_icmp_ge (tgt := 30) hx hb dX9_areDays_23 (by decide) ⟨lx_3, ux_3⟩ ⟨lx2, ux2⟩ (fun c23 => ?_) (fun c23 => ?_)
        · refine q_iconst hx hb dX9_areDays_30 ?_
          exact q_ret_z hx hb hr hlocks hK hAe hw (by omega) (Nat.le_of_ble_eq_true rfl) (Nat.le_of_ble_eq_true rfl) dX9_areDays_31 ⟨rfl, rfl, by omega⟩
        · refine q_iconst hx hb dX9_areDays_26 ?_
          refine lv_goto (tgt := 31) hx hb dX9_areDays_27 (by decide) ?_
          exact q_ret_z hx hb hr hlocks hK hAe hw (by omega) (Nat.le_of_ble_eq_true rfl) (Nat.le_of_ble_eq_true rfl) dX9_areDays_31 ⟨rfl, rfl, by omega⟩
set_option maxHeartbeats 4000000 in
set_option maxRecDepth 100000 in
theorem c_X9_key_f {Z : Zt} (zo : Zok Z) (l : Launch) (D : va_G) (cy : Cy) (L0 : List Nat) (f0 : Nat → va_E) (a0 : Nat) (x1 : Int) (lx1 : -2147483648 ≤ x1) (ux1 : x1 ≤ 2147483647) (x2 : Int) (lx2 : -2147483648 ≤ x2) (ux2 : x2 ≤ 2147483647) (m_a0 : a0 ∈ L0) (o_a0 : Ob f0 a0 7) (hg : GI cy L0 f0) (rq : Int → Nat) (g : Int → Int) (mm : Int) (sx : SX f0 a0 rq g mm) : Ci Z l yX9_key (Cond.code yX9_key cX9_key 3 (some .int) :: TB) ({ frames := 4, cells := 0, slots := 0, locals := 90 } : Room) 0 0 D (tq cy) [.ref a0, .int (iI x1), .int (iI x2)] L0 f0 (fun (r : Int) (L1 : List Nat) (f1 : Nat → va_E) => L0 = L1 ∧ f0 = f1 ∧ ((r = -1 ∧ (x1 < 0 ∨ mm ≤ x1 ∨ x2 < 0 ∨ 36524 < x2)) ∨ (0 ≤ x1 ∧ x1 < mm ∧ 0 ≤ x2 ∧ x2 ≤ 36524 ∧ Fst (KG g (44 * x1)) x2 r))) := by
  refine Ci.enter (cc := cX9_key) (n := 3) rfl (plainFor_of_name (by decide)) (Nat.le_of_ble_eq_true rfl) ?_
  intro p e s m below meth c ls A hx hb hr hts hown hlocks hnm hml hK hA hAe hw hZ hl
  have hown : s.vm.findClass RX9 = some m.cls := hown
  have hl : lv_has ls 3 [(0, .ref a0), (1, .int (iI x1)), (2, .int (iI x2))] := hl
  have hN : ZN s := (zo.2.2.2.2 _ _ _ hZ).2
  refine lv_aload_n hx hb dX9_key_0 rfl (lv_at hl 0 rfl) ?_
  obtain ⟨r_1, er_1, m_r_1, o_r_1⟩ := (show ∃ r, fR f0 a0 2 = some r ∧ r ∈ L0 ∧ Ob f0 r 5 from hg.2.1 _ m_a0 7 2 o_a0)
  refine q_getr (ci := 7) (C := RX9) (T := TX9) (N := 4) hx hb hts (fun w h => List.mem_cons_of_mem _ (mfX90 w h)) hown hK hw m_a0 o_a0 rfl 2 (by decide) (hts _ (List.mem_cons_of_mem _ (mr1 _ (List.mem_of_getElem? (i := 20) rfl)))) (fun _ h => h) rfl er_1 dX9_key_1 ?_
  have s1 := sx.at er_1
  refine lv_iload_n hx hb dX9_key_4 rfl (lv_at hl 1 rfl) ?_
  refine q_call_i hA hK hw (va_runV (As := [.int (iI x1)]) (rest := []) ⟨hx, hb, hml, hown, hts⟩ (c_X7_has_f zo l D cy L0 f0 r_1 x1 lx1 ux1 m_r_1 o_r_1 hg _) (cwV 1 hts (gT (inV (mr22 _ (List.mem_of_getElem? (i := 9) rfl)) (mr22 _ (List.mem_of_getElem? (i := 10) rfl)) (mr22 _ (List.mem_of_getElem? (i := 11) rfl)) (mr1 _ (List.mem_of_getElem? (i := 19) rfl)) (mr22 _ (List.mem_of_getElem? (i := 12) rfl)))) rfl rfl rfl (by decide +kernel) ⟨Nat.le_of_ble_eq_true rfl, Nat.le_of_ble_eq_true rfl⟩) (Wd.preV zo hA hZ hw hK m_r_1 o_r_1 rfl) rfl rfl hl.1 rfl (lv_room (Nat.le_of_ble_eq_true rfl)) dX9_key_5 ⟨Nat.le_of_ble_eq_true rfl, Nat.le_of_ble_eq_true rfl⟩) (fun x_2 L1 f1 H locs lx_2 ux_2 ex_2 hw => ?_)
  obtain ⟨rfl, rfl, ex_2⟩ := ex_2
  refine q_if_eq (tgt := 18) hx hb dX9_key_8 (by decide) ⟨lx_2, ux_2⟩ (fun c8 => ?_) (fun c8 => ?_)
  · refine q_iconst hx hb dX9_key_18 ?_
    exact q_ret_i hx hb hr hlocks hK hAe hw ⟨by decide, by decide⟩ (Nat.le_of_ble_eq_true rfl) (Nat.le_of_ble_eq_true rfl) dX9_key_19 ⟨rfl, rfl, by exact Or.inl ⟨by omega, by omega⟩⟩
  · refine lv_iload_n hx hb dX9_key_11 rfl (lv_at hl 2 rfl) ?_
    refine q_call_i hA hK hw (va_runS (As := [.int (iI x2)]) (rest := []) ⟨hx, hb, hml, hown, hts⟩ (c_X9_isDay zo l D cy L0 f0 x2 lx2 ux2 _) (va_cwS 1 hts (gT (inS (mr23 _ (List.mem_of_getElem? (i := 13) rfl)) (mr23 _ (List.mem_of_getElem? (i := 14) rfl)) (mr1 _ (List.mem_of_getElem? (i := 2) rfl)) (mr23 _ (List.mem_of_getElem? (i := 15) rfl)))) rfl rfl rfl (by decide +kernel) ⟨Nat.le_of_ble_eq_true rfl, Nat.le_of_ble_eq_true rfl⟩) (Wd.preS zo hA hZ hw hK) rfl rfl hl.1 rfl (lv_room (Nat.le_of_ble_eq_true rfl)) dX9_key_12 ⟨Nat.le_of_ble_eq_true rfl, Nat.le_of_ble_eq_true rfl⟩) (fun x_3 L1 f1 H locs lx_3 ux_3 ex_3 hw => ?_)
    obtain ⟨rfl, rfl, ex_3⟩ := ex_3
    refine q_if_ne (tgt := 20) hx hb dX9_key_15 (by decide) ⟨lx_3, ux_3⟩ (fun c15 => ?_) (fun c15 => ?_)
    · refine lv_aload_n hx hb dX9_key_20 rfl (lv_at hl 0 rfl) ?_
      refine q_getr (ci := 7) (C := RX9) (T := TX9) (N := 4) hx hb hts (fun w h => List.mem_cons_of_mem _ (mfX90 w h)) hown hK hw m_a0 o_a0 rfl 2 (by decide) (hts _ (List.mem_cons_of_mem _ (mr1 _ (List.mem_of_getElem? (i := 20) rfl)))) (fun _ h => h) rfl er_1 dX9_key_21 ?_
      have s1 := sx.at er_1
      refine lv_iload_n hx hb dX9_key_24 rfl (lv_at hl 1 rfl) ?_
      refine q_call_r hA hK hw (va_runV (As := [.int (iI x1)]) (rest := []) ⟨hx, hb, hml, hown, hts⟩ (c_X7_at_f zo l D cy L0 f0 r_1 x1 lx1 ux1 m_r_1 o_r_1 hg (by omega) (by omega) _) (cwV 1 hts (gT (inV (mr24 _ (List.mem_of_getElem? (i := 8) rfl)) (mr24 _ (List.mem_of_getElem? (i := 9) rfl)) (mr24 _ (List.mem_of_getElem? (i := 10) rfl)) (mr1 _ (List.mem_of_getElem? (i := 19) rfl)) (mr24 _ (List.mem_of_getElem? (i := 11) rfl)))) rfl rfl rfl (by decide +kernel) ⟨Nat.le_of_ble_eq_true rfl, Nat.le_of_ble_eq_true rfl⟩) (Wd.preV zo hA hZ hw hK m_r_1 o_r_1 rfl) rfl rfl hl.1 rfl (lv_room (Nat.le_of_ble_eq_true rfl)) dX9_key_25 ⟨Nat.le_of_ble_eq_true rfl, Nat.le_of_ble_eq_true rfl⟩) (fun x_4 L1 f1 H locs ex_4 hw => ?_)
      obtain ⟨rfl, rfl, ex_4⟩ := ex_4
      obtain ⟨m_x_4, o_x_4, ex_4⟩ := ex_4
      have rb := s1.1.rb ex_4 (by omega) (by omega) (by omega)
      refine lv_iload_n hx hb dX9_key_28 rfl (lv_at hl 2 rfl) ?_
      refine q_call_i hA hK hw (va_runV (As := [.int (iI x2)]) (rest := []) ⟨hx, hb, hml, hown, hts⟩ (c_X0_keyFrom_g zo l D cy L0 f0 x_4 x2 lx2 ux2 m_x_4 o_x_4 hg g (44 * x1) rb _) (cwV 1 hts (gT (inV (mr24 _ (List.mem_of_getElem? (i := 12) rfl)) (mr24 _ (List.mem_of_getElem? (i := 13) rfl)) (mr24 _ (List.mem_of_getElem? (i := 14) rfl)) (mr2 _ (List.mem_of_getElem? (i := 9) rfl)) (mr24 _ (List.mem_of_getElem? (i := 15) rfl)))) rfl rfl rfl (by decide +kernel) ⟨Nat.le_of_ble_eq_true rfl, Nat.le_of_ble_eq_true rfl⟩) (Wd.preV zo hA hZ hw hK m_x_4 o_x_4 rfl) rfl rfl hl.1 rfl (lv_room (Nat.le_of_ble_eq_true rfl)) dX9_key_29 ⟨Nat.le_of_ble_eq_true rfl, Nat.le_of_ble_eq_true rfl⟩) (fun x_5 L1 f1 H locs lx_5 ux_5 ex_5 hw => ?_)
      obtain ⟨rfl, rfl, ex_5⟩ := ex_5
      exact q_ret_i hx hb hr hlocks hK hAe hw ⟨lx_5, ux_5⟩ (Nat.le_of_ble_eq_true rfl) (Nat.le_of_ble_eq_true rfl) dX9_key_32 ⟨rfl, rfl, by exact Or.inr ⟨by omega, by omega, by omega, by omega, ex_5⟩⟩
    · refine q_iconst hx hb dX9_key_18 ?_
      exact q_ret_i hx hb hr hlocks hK hAe hw ⟨by decide, by decide⟩ (Nat.le_of_ble_eq_true rfl) (Nat.le_of_ble_eq_true rfl) dX9_key_19 ⟨rfl, rfl, by exact Or.inl ⟨by omega, by omega⟩⟩
set_option maxHeartbeats 4000000 in
set_option maxRecDepth 100000 in
theorem c_X9_keys_f {Z : Zt} (zo : Zok Z) (l : Launch) (D : va_G) (cy : Cy) (L0 : List Nat) (f0 : Nat → va_E) (a0 : Nat) (x1 : Int) (lx1 : -2147483648 ≤ x1) (ux1 : x1 ≤ 2147483647) (x2 : Int) (lx2 : -2147483648 ≤ x2) (ux2 : x2 ≤ 2147483647) (x3 : Int) (lx3 : -2147483648 ≤ x3) (ux3 : x3 ≤ 2147483647) (m_a0 : a0 ∈ L0) (o_a0 : Ob f0 a0 7) (hg : GI cy L0 f0) (rq : Int → Nat) (g : Int → Int) (mm : Int) (sx : SX f0 a0 rq g mm) : Ci Z l yX9_keys (Cond.code yX9_keys cX9_keys 4 (some .int) :: TB) ({ frames := 4, cells := 0, slots := 0, locals := 96 } : Room) 0 0 D (tq cy) [.ref a0, .int (iI x1), .int (iI x2), .int (iI x3)] L0 f0 (fun (r : Int) (L1 : List Nat) (f1 : Nat → va_E) => L0 = L1 ∧ f0 = f1 ∧ ((r = -1 ∧ (x1 < 0 ∨ mm ≤ x1 ∨ x2 < 0 ∨ 36524 < x2 ∨ x3 < 0 ∨ 36524 < x3 ∨ x3 < x2)) ∨ (0 ≤ x1 ∧ x1 < mm ∧ 0 ≤ x2 ∧ x2 ≤ x3 ∧ x3 ≤ 36524 ∧ r = cn (KG g (44 * x1)) x2 (x3 + 1)))) := by
  refine Ci.enter (cc := cX9_keys) (n := 4) rfl (plainFor_of_name (by decide)) (Nat.le_of_ble_eq_true rfl) ?_
  intro p e s m below meth c ls A hx hb hr hts hown hlocks hnm hml hK hA hAe hw hZ hl
  have hown : s.vm.findClass RX9 = some m.cls := hown
  have hl : lv_has ls 4 [(0, .ref a0), (1, .int (iI x1)), (2, .int (iI x2)), (3, .int (iI x3))] := hl
  have hN : ZN s := (zo.2.2.2.2 _ _ _ hZ).2
  refine lv_aload_n hx hb dX9_keys_0 rfl (lv_at hl 0 rfl) ?_
  obtain ⟨r_1, er_1, m_r_1, o_r_1⟩ := (show ∃ r, fR f0 a0 2 = some r ∧ r ∈ L0 ∧ Ob f0 r 5 from hg.2.1 _ m_a0 7 2 o_a0)
  refine q_getr (ci := 7) (C := RX9) (T := TX9) (N := 4) hx hb hts (fun w h => List.mem_cons_of_mem _ (mfX90 w h)) hown hK hw m_a0 o_a0 rfl 2 (by decide) (hts _ (List.mem_cons_of_mem _ (mr1 _ (List.mem_of_getElem? (i := 20) rfl)))) (fun _ h => h) rfl er_1 dX9_keys_1 ?_
  have s1 := sx.at er_1
  refine lv_iload_n hx hb dX9_keys_4 rfl (lv_at hl 1 rfl) ?_
  refine q_call_i hA hK hw (va_runV (As := [.int (iI x1)]) (rest := []) ⟨hx, hb, hml, hown, hts⟩ (c_X7_has_f zo l D cy L0 f0 r_1 x1 lx1 ux1 m_r_1 o_r_1 hg _) (cwV 1 hts (gT (inV (mr22 _ (List.mem_of_getElem? (i := 9) rfl)) (mr22 _ (List.mem_of_getElem? (i := 10) rfl)) (mr22 _ (List.mem_of_getElem? (i := 11) rfl)) (mr1 _ (List.mem_of_getElem? (i := 19) rfl)) (mr22 _ (List.mem_of_getElem? (i := 12) rfl)))) rfl rfl rfl (by decide +kernel) ⟨Nat.le_of_ble_eq_true rfl, Nat.le_of_ble_eq_true rfl⟩) (Wd.preV zo hA hZ hw hK m_r_1 o_r_1 rfl) rfl rfl hl.1 rfl (lv_room (Nat.le_of_ble_eq_true rfl)) dX9_keys_5 ⟨Nat.le_of_ble_eq_true rfl, Nat.le_of_ble_eq_true rfl⟩) (fun x_2 L1 f1 H locs lx_2 ux_2 ex_2 hw => ?_)
  obtain ⟨rfl, rfl, ex_2⟩ := ex_2
  refine q_if_eq (tgt := 21) hx hb dX9_keys_8 (by decide) ⟨lx_2, ux_2⟩ (fun c8 => ?_) (fun c8 => ?_)
  · refine q_iconst hx hb dX9_keys_21 ?_
    exact q_ret_i hx hb hr hlocks hK hAe hw ⟨by decide, by decide⟩ (Nat.le_of_ble_eq_true rfl) (Nat.le_of_ble_eq_true rfl) dX9_keys_22 ⟨rfl, rfl, by exact Or.inl ⟨by omega, by omega⟩⟩
  · refine lv_iload_n hx hb dX9_keys_11 rfl (lv_at hl 2 rfl) ?_
    refine lv_iload_n hx hb dX9_keys_12 rfl (lv_at hl 3 rfl) ?_
    refine q_ldc (n := 36525) hx hb hown (hts _ (List.mem_cons_of_mem _ (mr25 _ (List.mem_of_getElem? (i := 12) rfl)))) rfl dX9_keys_13 ?_
    refine q_call_i hA hK hw (va_runS (As := [.int (iI x2), .int (iI x3), .int (iI 36525)]) (rest := []) ⟨hx, hb, hml, hown, hts⟩ (c_X9_areDays_f zo l D cy L0 f0 x2 lx2 ux2 x3 lx3 ux3 36525 (by decide) (by decide) _) (va_cwS 3 hts (gT (inS (mr25 _ (List.mem_of_getElem? (i := 13) rfl)) (mr25 _ (List.mem_of_getElem? (i := 14) rfl)) (mr1 _ (List.mem_of_getElem? (i := 2) rfl)) (mr25 _ (List.mem_of_getElem? (i := 15) rfl)))) rfl rfl rfl (by decide +kernel) ⟨Nat.le_of_ble_eq_true rfl, Nat.le_of_ble_eq_true rfl⟩) (Wd.preS zo hA hZ hw hK) rfl rfl hl.1 rfl (lv_room (Nat.le_of_ble_eq_true rfl)) dX9_keys_15 ⟨Nat.le_of_ble_eq_true rfl, Nat.le_of_ble_eq_true rfl⟩) (fun x_3 L1 f1 H locs lx_3 ux_3 ex_3 hw => ?_)
    obtain ⟨rfl, rfl, ex_3⟩ := ex_3
    refine q_if_ne (tgt := 23) hx hb dX9_keys_18 (by decide) ⟨lx_3, ux_3⟩ (fun c18 => ?_) (fun c18 => ?_)
    · refine lv_aload_n hx hb dX9_keys_23 rfl (lv_at hl 0 rfl) ?_
      refine q_getr (ci := 7) (C := RX9) (T := TX9) (N := 4) hx hb hts (fun w h => List.mem_cons_of_mem _ (mfX90 w h)) hown hK hw m_a0 o_a0 rfl 2 (by decide) (hts _ (List.mem_cons_of_mem _ (mr1 _ (List.mem_of_getElem? (i := 20) rfl)))) (fun _ h => h) rfl er_1 dX9_keys_24 ?_
      have s1 := sx.at er_1
      refine lv_iload_n hx hb dX9_keys_27 rfl (lv_at hl 1 rfl) ?_
      refine q_call_r hA hK hw (va_runV (As := [.int (iI x1)]) (rest := []) ⟨hx, hb, hml, hown, hts⟩ (c_X7_at_f zo l D cy L0 f0 r_1 x1 lx1 ux1 m_r_1 o_r_1 hg (by omega) (by omega) _) (cwV 1 hts (gT (inV (mr24 _ (List.mem_of_getElem? (i := 8) rfl)) (mr24 _ (List.mem_of_getElem? (i := 9) rfl)) (mr24 _ (List.mem_of_getElem? (i := 10) rfl)) (mr1 _ (List.mem_of_getElem? (i := 19) rfl)) (mr24 _ (List.mem_of_getElem? (i := 11) rfl)))) rfl rfl rfl (by decide +kernel) ⟨Nat.le_of_ble_eq_true rfl, Nat.le_of_ble_eq_true rfl⟩) (Wd.preV zo hA hZ hw hK m_r_1 o_r_1 rfl) rfl rfl hl.1 rfl (lv_room (Nat.le_of_ble_eq_true rfl)) dX9_keys_28 ⟨Nat.le_of_ble_eq_true rfl, Nat.le_of_ble_eq_true rfl⟩) (fun x_4 L1 f1 H locs ex_4 hw => ?_)
      obtain ⟨rfl, rfl, ex_4⟩ := ex_4
      obtain ⟨m_x_4, o_x_4, ex_4⟩ := ex_4
      have rb := s1.1.rb ex_4 (by omega) (by omega) (by omega)
      refine lv_iload_n hx hb dX9_keys_31 rfl (lv_at hl 2 rfl) ?_
      refine lv_iload_n hx hb dX9_keys_32 rfl (lv_at hl 3 rfl) ?_
      refine q_call_i hA hK hw (va_runV (As := [.int (iI x2), .int (iI x3)]) (rest := []) ⟨hx, hb, hml, hown, hts⟩ (c_X0_keysIn_g zo l D cy L0 f0 x_4 x2 lx2 ux2 x3 lx3 ux3 m_x_4 o_x_4 hg g (44 * x1) rb _) (cwV 2 hts (gT (inV (mr25 _ (List.mem_of_getElem? (i := 16) rfl)) (mr25 _ (List.mem_of_getElem? (i := 17) rfl)) (mr25 _ (List.mem_of_getElem? (i := 18) rfl)) (mr2 _ (List.mem_of_getElem? (i := 9) rfl)) (mr25 _ (List.mem_of_getElem? (i := 19) rfl)))) rfl rfl rfl (by decide +kernel) ⟨Nat.le_of_ble_eq_true rfl, Nat.le_of_ble_eq_true rfl⟩) (Wd.preV zo hA hZ hw hK m_x_4 o_x_4 rfl) rfl rfl hl.1 rfl (lv_room (Nat.le_of_ble_eq_true rfl)) dX9_keys_33 ⟨Nat.le_of_ble_eq_true rfl, Nat.le_of_ble_eq_true rfl⟩) (fun x_5 L1 f1 H locs lx_5 ux_5 ex_5 hw => ?_)
      obtain ⟨rfl, rfl, ex_5⟩ := ex_5
      exact q_ret_i hx hb hr hlocks hK hAe hw ⟨lx_5, ux_5⟩ (Nat.le_of_ble_eq_true rfl) (Nat.le_of_ble_eq_true rfl) dX9_keys_36 ⟨rfl, rfl, by exact Or.inr ⟨by omega, by omega, by omega, by omega, by omega, ex_5⟩⟩
    · refine q_iconst hx hb dX9_keys_21 ?_
      exact q_ret_i hx hb hr hlocks hK hAe hw ⟨by decide, by decide⟩ (Nat.le_of_ble_eq_true rfl) (Nat.le_of_ble_eq_true rfl) dX9_keys_22 ⟨rfl, rfl, by exact Or.inl ⟨by omega, by omega⟩⟩
