/-! ===== a Shelf is copied: the odds too ===== -/
/-- the arrays of two Shelves' rows are apart, those of the first among themselves too -/
def ADR (f : Nat → va_E) (rq ro : Int → Nat) : Prop := (∀ i j : Int, 0 ≤ i → i < 12 → 0 ≤ j → j < 12 → AD f (rq i) (ro j)) ∧ (∀ i j : Int, 0 ≤ i → i < 12 → 0 ≤ j → j < 12 → i ≠ j → AD f (rq i) (rq j)) ∧ (∀ i : Int, 0 ≤ i → i < 12 → KA f (rq i) ≠ TA f (rq i))
theorem ADR.ka {f g : Nat → va_E} {rq ro : Int → Nat} (h : ADR f rq ro) (k : ∀ y : Nat, KA g y = KA f y ∧ TA g y = TA f y) : ADR g rq ro :=
  ⟨fun i j i0 i1 j0 j1 => (h.1 i j i0 i1 j0 j1).ka (k _) (k _), fun i j i0 i1 j0 j1 n => (h.2.1 i j i0 i1 j0 j1 n).ka (k _) (k _), fun i i0 i1 => by rw [(k _).1, (k _).2]; exact h.2.2 i i0 i1⟩
def CFO (f0 f : Nat → va_E) (a0 : Nat) (rq ro : Int → Nat) (k : Int) : Prop := Em (PS a0 rq) f0 f ∧ (∀ i : Int, 0 ≤ i → i < k → ∀ O : Int → Int, OC f0 (ro i) O → OC f (rq i) O) ∧ (∀ i : Int, 0 ≤ i → i < 12 → ∀ O : Int → Int, OC f0 (ro i) O → OC f (ro i) O)
theorem CFO.start {f0 g : Nat → va_E} {a0 : Nat} {rq ro : Int → Nat} {v : Value} (o : Ob f0 a0 5) (e : g = pU f0 a0 1 v) : CFO f0 g a0 rq ro 0 :=
  ⟨(Em.refl _ f0).pU o e (Or.inl rfl) (by decide) (by decide), fun i i0 i1 => by omega, fun i _ _ O h => h.pU o e (by decide) (by decide) (by decide)⟩
theorem CFO.step {cy : Cy} {f0 f f' : Nat → va_E} {a0 x y : Nat} {rq ro : Int → Nat} {k k' : Int} (c : CFO f0 f a0 rq ro k) (ad : ADR f0 rq ro) (inj : ∀ i j : Int, 0 ≤ i → i < 12 → 0 ≤ j → j < 12 → rq i = rq j → i = j) (dj : ∀ i j : Int, 0 ≤ i → i < 12 → 0 ≤ j → j < 12 → rq i ≠ ro j) (ex : x = rq k) (ey : y = ro k) (k0 : 0 ≤ k) (k1 : k < 12) (z : Ec f f' x) (co : CO f f' x y) (e10 : fV f' x 10 = fV f y 10) (bb : fI f y 10 ≤ 16) (ao : AO cy f x) (ek : k' = k + 1) : CFO f0 f' a0 rq ro k' := by
  subst ex
  subst ey
  obtain ⟨c1, c2, c3⟩ := c
  have ad := ad.ka c1.ka
  refine ⟨c1.trans ((z.em ao).mono (fun y h => Or.inr ⟨k, k0, k1, h⟩)), fun i i0 i1 O h => ?_, fun i i0 i1 O h => ?_⟩
  · by_cases q : i = k
    · rw [q] at h ⊢
      exact (c3 k k0 k1 O h).copy co z e10 bb
    · exact (c2 i i0 (by omega) O h).ec z (fun w => q (inj i k i0 (by omega) k0 k1 w)) (ad.2.1 i k i0 (by omega) k0 k1 q)
  · exact (c3 i i0 i1 O h).ec z (fun w => dj k i k0 k1 i0 i1 w.symm) (ad.1 k i k0 k1 i0 i1).symm
theorem cfo_arg {f0 f : Nat → va_E} {a0 : Nat} {rq ro : Int → Nat} {k k' : Int} (c : CFO f0 f a0 rq ro k) (e : k' = k) : CFO f0 f a0 rq ro k' := by rw [e]; exact c
theorem CFO.done {f0 f : Nat → va_E} {a0 : Nat} {rq ro : Int → Nat} {k m : Int} (c : CFO f0 f a0 rq ro k) (h : m ≤ k) : CFO f0 f a0 rq ro m := ⟨c.1, fun i i0 i1 => c.2.1 i i0 (by omega), c.2.2⟩
theorem split_endo {cy : Cy} {f0 f9 f1 : Nat → va_E} {a0 sh s' : Nat} {rq : Int → Nat} {g : Int → Int} {mm r x1 x2 : Int} (e : fI f1 s' 1 = fI f9 s' 1 + 1 ∧ r = fI f9 s' 1 ∧ RK f9 f1 s') (es : some s' = some sh) (sz : fI f9 sh 1 = fI f0 sh 1) (sm : fI f0 sh 1 = mm) (h1 : 0 ≤ x1) (h2 : x1 < mm) (h3 : 0 ≤ x2) (h4 : x2 ≤ 36524) (h5 : mm < 12) (h6 : cn (KG g (44 * x1)) 0 x2 ≠ 0) (h7 : cn (KG g (44 * x1)) x2 36525 ≠ 0) (h8 : 0 ≤ mm) (e2 : fR f0 a0 2 = some sh) (cF : Fo (fun y => y = rq x1 ∨ y = rq mm) cy f0 f9) (cR : Fr0 f0 f9) (ca : RB f9 (rq x1) (HWd g (44 * x1) x2) (44 * x1)) (ct : RB f9 (rq mm) (TWd g (44 * x1) x2) (44 * x1)) {O : Int → Int} (oh : OC f9 (rq x1) (cutH O x2)) (ot : OC f9 (rq mm) (cutT O x2)) (em : Em (fun y => y = rq x1 ∨ y = rq mm) f0 f9) :
    (r = -1 ∧ (x1 < 0 ∨ mm ≤ x1 ∨ x2 < 0 ∨ 36524 < x2 ∨ 12 ≤ mm ∨ cn (KG g (44 * x1)) 0 x2 = 0 ∨ cn (KG g (44 * x1)) x2 36525 = 0) ∧ f1 = f0) ∨ (r = mm ∧ 0 ≤ x1 ∧ x1 < mm ∧ 0 ≤ x2 ∧ x2 ≤ 36524 ∧ mm < 12 ∧ cn (KG g (44 * x1)) 0 x2 ≠ 0 ∧ cn (KG g (44 * x1)) x2 36525 ≠ 0 ∧ ∃ (sh : Nat) (f9 : Nat → va_E), fR f0 a0 2 = some sh ∧ Fo (fun y => y = rq x1 ∨ y = rq mm) cy f0 f9 ∧ Fr0 f0 f9 ∧ RB f9 (rq x1) (HWd g (44 * x1) x2) (44 * x1) ∧ RB f9 (rq mm) (TWd g (44 * x1) x2) (44 * x1) ∧ RK f9 f1 sh ∧ fI f1 sh 1 = mm + 1 ∧ OC f9 (rq x1) (cutH O x2) ∧ OC f9 (rq mm) (cutT O x2) ∧ Em (fun y => y = rq x1 ∨ y = rq mm) f0 f9) := by
  have es := Option.some.inj es
  subst es
  obtain ⟨e1, e3, e4⟩ := e
  exact Or.inr ⟨by omega, h1, h2, h3, h4, h5, h6, h7, s', f9, e2, cF, cR, ca, ct, e4, by omega, oh, ot, em⟩
set_option maxHeartbeats 4000000 in
set_option maxRecDepth 100000 in
theorem c_X7_copyFrom_o {Z : Zt} (zo : Zok Z) (l : Launch) (D : va_G) (cy : Cy) (L0 : List Nat) (f0 : Nat → va_E) (a0 : Nat) (a1 : Nat) (m_a0 : a0 ∈ L0) (o_a0 : Ob f0 a0 5) (m_a1 : a1 ∈ L0) (o_a1 : Ob f0 a1 5) (hg : GI cy L0 f0) (rq : Int → Nat) (ro : Int → Nat) (g : Int → Int) (mm : Int) (sf : SF f0 a0 rq) (sr : SR f0 a1 ro g mm) (m0 : 0 ≤ mm) (m1 : mm ≤ 12) (dj : ∀ i j : Int, 0 ≤ i → i < 12 → 0 ≤ j → j < 12 → rq i ≠ ro j) (ne : a1 ≠ a0) (adr : ADR f0 rq ro) : Cv Z l yX7_copyFrom (Cond.code yX7_copyFrom cX7_copyFrom 3 none :: TB) ({ frames := 2, cells := 0, slots := 0, locals := 81 } : Room) 0 0 D (tq cy) [.ref a0, .ref a1] L0 f0 (fun (L1 : List Nat) (f1 : Nat → va_E) => L0 = L1 ∧ GI cy L0 f1 ∧ Ex cy f0 f1 ∧ ((SR f1 a0 rq g mm ∧ SR f1 a1 ro g mm ∧ Fo (PS a0 rq) cy f0 f1 ∧ Fr0 f0 f1) ∧ CFO f0 f1 a0 rq ro mm)) := by
  refine Cv.enter (cc := cX7_copyFrom) (n := 3) rfl (plainFor_of_name (by decide)) (Nat.le_of_ble_eq_true rfl) ?_
  intro p e s m below meth c ls A hx hb hr hts hown hlocks hnm hml hK hA hAe hw hZ hl
  have hown : s.vm.findClass RX7 = some m.cls := hown
  have hl : lv_has ls 3 [(0, .ref a0), (1, .ref a1)] := hl
  have hN : ZN s := (zo.2.2.2.2 _ _ _ hZ).2
  have hE : Ex cy f0 f0 := Ex.refl cy f0
  have s9 := sr.2.1
  refine lv_aload_n hx hb dX7_copyFrom_0 rfl (lv_at hl 0 rfl) ?_
  refine lv_aload_n hx hb dX7_copyFrom_1 rfl (lv_at hl 1 rfl) ?_
  refine q_geti (ci := 5) (C := RX7) (T := TX7) (N := 2) hx hb hts (fun w h => List.mem_cons_of_mem _ (mfX70 w h)) hown hK hw m_a1 o_a1 rfl 1 (by decide) (hts _ (List.mem_cons_of_mem _ (mr2 _ (List.mem_of_getElem? (i := 4) rfl)))) (fun _ h => h) rfl dX7_copyFrom_2 (fun x_1 lx_1 ux_1 ex_1 => ?_)
  have bx_1 : 0 ≤ x_1 ∧ x_1 ≤ 12 := by rw [ex_1]; exact hg.1 _ m_a1 5 1 o_a1
  refine q_puti (ci := 5) (C := RX7) (T := TX7) (N := 2) hx hb hts (fun w h => List.mem_cons_of_mem _ (mfX70 w h)) hown hK hw m_a0 o_a0 rfl 1 (by decide) (hts _ (List.mem_cons_of_mem _ (mr2 _ (List.mem_of_getElem? (i := 4) rfl)))) (fun _ h => h) tyX7 tyX7_ok nmX7 rfl (ty := .int) (by decide +kernel) rfl rfl dX7_copyFrom_5 (fun H locs hw => ?_)
  have oo := o_a0
  obtain ⟨f_2, ef_2⟩ : ∃ g : Nat → va_E, g = pU f0 a0 1 (.int (iI x_1)) := ⟨_, rfl⟩
  have hX : Ex cy f0 f_2 := by rw [ef_2]; exact Ex_pU oo rfl rfl (by decide)
  have hg : GI cy L0 f_2 := by rw [ef_2]; exact hg.putI oo rfl ⟨lx_1, ux_1⟩ (by show 0 ≤ x_1 ∧ x_1 ≤ 12; omega)
  rw [← ef_2] at hw
  have hE := hE.trans hX
  have o_a0 := hX.1.1 _ _ o_a0
  have o_a1 := hX.1.1 _ _ o_a1
  have vf_2 : fI f_2 a0 1 = x_1 := by rw [ef_2]; exact fI_pU_self oo rfl ⟨lx_1, ux_1⟩
  have cf := CF.start (cy := cy) (rq := rq) oo ne sr m1 ⟨by omega, by omega⟩ (by omega) ef_2
  have co := CFO.start (rq := rq) (ro := ro) oo ef_2
  refine q_iconst hx hb dX7_copyFrom_8 ?_
  refine lv_istore_n (lv' := [(2, .int (iI 0)), (0, .ref a0), (1, .ref a1)]) hx hb dX7_copyFrom_9 rfl hl (by decide) rfl (fun ls hl => ?_)
  have J10 : ∀ (n10 : Nat) (y2_10 : Int) (ly2_10 : -2147483648 ≤ y2_10) (uy2_10 : y2_10 ≤ 2147483647) (L : List Nat) (fw10 : Nat → va_E) (hg : GI cy L0 fw10) (hE : Ex cy f0 fw10) (o_a0 : Ob fw10 a0 5) (o_a1 : Ob fw10 a1 5) (i1 : 0 ≤ y2_10) (i2 : y2_10 ≤ mm) (cf : CF cy f0 fw10 a0 a1 rq ro g mm y2_10) (co : CFO f0 fw10 a0 rq ro y2_10) (hn10 : ((2147483647 : Int) - y2_10).toNat < n10) (H : Heap) (locs : List Loc) (ls : Array Slot) (hw : Wd D A s.heap L0 fw10 H locs) (hl : lv_has ls 3 [(0, .ref a0), (1, .ref a1), (2, .int (iI y2_10))]), W p l e ({ frames := 2, cells := 0, slots := 0, locals := 81 } : Room) s m ([.ref a0, .ref a1] : List Value).toArray below meth c H locs (0) (0) (MQ below (Qv D (tq cy) L0 f0 s.heap.size (fun (L1 : List Nat) (f1 : Nat → va_E) => L0 = L1 ∧ GI cy L0 f1 ∧ Ex cy f0 f1 ∧ ((SR f1 a0 rq g mm ∧ SR f1 a1 ro g mm ∧ Fo (PS a0 rq) cy f0 f1 ∧ Fr0 f0 f1) ∧ CFO f0 f1 a0 rq ro mm))) ([.ref a0, .ref a1] : List Value).toArray s 0 0 A) (F0 m 10 ls []) := by
    intro n10
    induction n10 with
    | zero => intro y2_10 ly2_10 uy2_10 L fw10 hg hE o_a0 o_a1 i1 i2 cf co hn10; exact absurd hn10 (Nat.not_lt_zero _)
    | succ n10 ih10 =>
      intro y2_10 ly2_10 uy2_10 L fw10 hg hE o_a0 o_a1 i1 i2 cf co hn10 H locs ls hw hl
      refine lv_iload_n hx hb dX7_copyFrom_10 rfl (lv_at hl 2 rfl) ?_
      refine lv_aload_n hx hb dX7_copyFrom_11 rfl (lv_at hl 0 rfl) ?_
      refine q_geti (ci := 5) (C := RX7) (T := TX7) (N := 2) hx hb hts (fun w h => List.mem_cons_of_mem _ (mfX70 w h)) hown hK hw m_a0 o_a0 rfl 1 (by decide) (hts _ (List.mem_cons_of_mem _ (mr2 _ (List.mem_of_getElem? (i := 4) rfl)))) (fun _ h => h) rfl dX7_copyFrom_12 (fun x_3 lx_3 ux_3 ex_3 => ?_)
      have bx_3 : 0 ≤ x_3 ∧ x_3 ≤ 12 := by rw [ex_3]; exact hg.1 _ m_a0 5 1 o_a0
      have s12 : x_3 = mm := ex_3.trans cf.2.2.1
      refine q_icmp_ge (tgt := 39) hx hb dX7_copyFrom_15 (by decide) ⟨ly2_10, uy2_10⟩ ⟨lx_3, ux_3⟩ (fun c15 => ?_) (fun c15 => ?_)
      · exact q_ret_v hx hb hr hlocks hK hAe hw (Nat.le_of_ble_eq_true rfl) (Nat.le_of_ble_eq_true rfl) dX7_copyFrom_39 (by exact ⟨rfl, hg, hE, cf.done sf o_a0 (by omega), co.done (by omega)⟩)
      · refine lv_aload_n hx hb dX7_copyFrom_18 rfl (lv_at hl 0 rfl) ?_
        obtain ⟨r_4, er_4, m_r_4, o_r_4⟩ := (show ∃ r, fR fw10 a0 0 = some r ∧ r ∈ L0 ∧ ArR fw10 r cy.2.2.2.1 12 from hg.2.1 _ m_a0 5 0 o_a0)
        refine q_getr (ci := 5) (C := RX7) (T := TX7) (N := 2) hx hb hts (fun w h => List.mem_cons_of_mem _ (mfX70 w h)) hown hK hw m_a0 o_a0 rfl 0 (by decide) (hts _ (List.mem_cons_of_mem _ (mr2 _ (List.mem_of_getElem? (i := 3) rfl)))) (fun _ h => h) rfl er_4 dX7_copyFrom_19 ?_
        have er19 := er_4
        refine lv_iload_n hx hb dX7_copyFrom_22 rfl (lv_at hl 2 rfl) ?_
        obtain ⟨r_5, er_5, m_r_5, o_r_5⟩ := hg.2.2.1 _ m_r_4 y2_10 o_r_4 (by omega) (by omega)
        refine q_aald hx hb hK hw m_r_4 3 o_r_4 rfl ⟨ly2_10, uy2_10⟩ (by omega) (by omega) er_5 dX7_copyFrom_23 ?_
        show W _ _ _ _ _ _ _ _ _ _ _ _ _ _ _ (F0 m 24 ls (.ref r_5 :: []))
        have gx := cf.row sf er19 er_5 (by omega) (by omega)
        have ox := o_r_5
        have ao23 : AO cy fw10 r_5 := AO.of hg m_r_5 o_r_5
        refine lv_aload_n hx hb dX7_copyFrom_24 rfl (lv_at hl 1 rfl) ?_
        obtain ⟨r_6, er_6, m_r_6, o_r_6⟩ := (show ∃ r, fR fw10 a1 0 = some r ∧ r ∈ L0 ∧ ArR fw10 r cy.2.2.2.1 12 from hg.2.1 _ m_a1 5 0 o_a1)
        refine q_getr (ci := 5) (C := RX7) (T := TX7) (N := 2) hx hb hts (fun w h => List.mem_cons_of_mem _ (mfX70 w h)) hown hK hw m_a1 o_a1 rfl 0 (by decide) (hts _ (List.mem_cons_of_mem _ (mr2 _ (List.mem_of_getElem? (i := 3) rfl)))) (fun _ h => h) rfl er_6 dX7_copyFrom_25 ?_
        have er25 := er_6
        refine lv_iload_n hx hb dX7_copyFrom_28 rfl (lv_at hl 2 rfl) ?_
        obtain ⟨r_7, er_7, m_r_7, o_r_7⟩ := hg.2.2.1 _ m_r_6 y2_10 o_r_6 (by omega) (by omega)
        refine q_aald hx hb hK hw m_r_6 3 o_r_6 rfl ⟨ly2_10, uy2_10⟩ (by omega) (by omega) er_7 dX7_copyFrom_29 ?_
        show W _ _ _ _ _ _ _ _ _ _ _ _ _ _ _ (F0 m 30 ls (.ref r_7 :: [.ref r_5]))
        have gy := cf.2.2.2.2.1.row ⟨_, er25, er_7⟩ (by omega) (by omega)
        have nxy := cf_ne dj gx gy (by omega) (by omega)
        have o09 := o_a0
        have o19 := o_a1
        have b29 : 0 ≤ fI fw10 r_7 10 ∧ fI fw10 r_7 10 ≤ 16 := hg.1 _ m_r_7 0 10 o_r_7
        refine q_call_v hA hK hw (va_runV (As := [.ref r_7]) (rest := []) ⟨hx, hb, hml, hown, hts⟩ (c_X0_copyFrom_o zo l D cy L0 fw10 r_5 r_7 m_r_5 o_r_5 m_r_7 o_r_7 hg nxy (by rw [gx, gy]; exact ((adr.ka co.1.ka).1 _ _ (by omega) (by omega) (by omega) (by omega)).symm) (by rw [gx]; exact (adr.ka co.1.ka).2.2 _ (by omega) (by omega)) _) (cwV 1 hts (gT (inV (mr44 _ (List.mem_of_getElem? (i := 22) rfl)) (mr40 _ (List.mem_of_getElem? (i := 16) rfl)) (mr40 _ (List.mem_of_getElem? (i := 17) rfl)) (mr2 _ (List.mem_of_getElem? (i := 9) rfl)) (mr40 _ (List.mem_of_getElem? (i := 18) rfl)))) rfl rfl rfl (by decide +kernel) ⟨Nat.le_of_ble_eq_true rfl, Nat.le_of_ble_eq_true rfl⟩) (Wd.preV zo hA hZ hw hK m_r_5 o_r_5 rfl) rfl rfl hl.1 rfl (lv_room (Nat.le_of_ble_eq_true rfl)) dX7_copyFrom_30 ⟨Nat.le_of_ble_eq_true rfl, Nat.le_of_ble_eq_true rfl⟩) (fun L1 f_9 H locs ex_8 hw => ?_)
        obtain ⟨rfl, hg, hX, ex_8⟩ := ex_8
        have hE := hE.trans hX
        have o_a0 := hX.1.1 _ _ o_a0
        have o_a1 := hX.1.1 _ _ o_a1
        obtain ⟨⟨z1, z2, z3⟩, z4, z5⟩ := ex_8
        have cf' := cf.step (k' := y2_10 + 1) sf dj o09 o19 gx gy ox (by omega) (by omega) m1 z1 z2 z3 rfl
        have co' := co.step (k' := y2_10 + 1) adr sf.2.2.2 dj gx gy (by omega) (by omega) z4 z5 (z3 10 (by decide)) b29.2 ao23 rfl
        obtain ⟨x_10, lx_10, ux_10, hx_10, ex_10⟩ := q_inc y2_10 (1)
        try (replace ex_10 : x_10 = y2_10 + (1) := by omega)
        refine lv_iinc (v := iI x_10) (lv' := [(2, .int (iI x_10)), (0, .ref a0), (1, .ref a1)]) hx hb dX7_copyFrom_33 hl (k := 2) rfl hx_10 (by decide) rfl (fun ls hl => ?_)
        refine lv_goto (tgt := 10) hx hb dX7_copyFrom_36 (by decide) ?_
        exact ih10 x_10 lx_10 ux_10 L0 f_9 hg hE o_a0 o_a1 (by omega) (by omega) (by first | exact cf | exact cf_arg cf' (by omega) | fail "none") (by first | exact co | exact cfo_arg co' (by omega) | fail "none") (by omega) _ _ _ hw (lv_sub hl [1, 2, 0] rfl)
  exact J10 ((((2147483647 : Int) - 0).toNat) + 1) 0 (by decide) (by decide) L0 f_2 hg hE o_a0 o_a1 (by omega) (by omega) (by first | exact cf | exact cf_arg cf' (by omega) | fail "none") (by first | exact co | exact cfo_arg co' (by omega) | fail "none") (by omega) _ _ _ hw (lv_sub hl [1, 2, 0] rfl)
set_option maxHeartbeats 4000000 in
set_option maxRecDepth 100000 in
theorem c_X9_back_o {Z : Zt} (zo : Zok Z) (l : Launch) (D : va_G) (cy : Cy) (L0 : List Nat) (f0 : Nat → va_E) (a0 : Nat) (x1 : Int) (lx1 : -2147483648 ≤ x1) (ux1 : x1 ≤ 2147483647) (m_a0 : a0 ∈ L0) (o_a0 : Ob f0 a0 7) (hg : GI cy L0 f0) (rq : Int → Nat) (g : Int → Int) (mm : Int) (sx : SX f0 a0 rq g mm) (im0 : Nat) (ei : fR f0 a0 3 = some im0) (ro : Int → Nat) (gi : Int → Int) (ni : Int) (ir : 0 ≤ x1 ∧ x1 ≤ 1 → (ni = -1 ∧ aR f0 im0 x1 = none) ∨ (0 ≤ ni ∧ ni ≤ 12 ∧ ∃ s : Nat, aR f0 im0 x1 = some s ∧ SR f0 s ro gi ni ∧ ∀ i j : Int, 0 ≤ i → i < 12 → 0 ≤ j → j < 12 → rq i ≠ ro j)) (adr : 0 ≤ x1 ∧ x1 ≤ 1 → 0 ≤ ni → ADR f0 rq ro) : Ci Z l yX9_back (Cond.code yX9_back cX9_back 2 (some .boolean) :: TB) ({ frames := 3, cells := 0, slots := 0, locals := 103 } : Room) 0 0 D (tq cy) [.ref a0, .int (iI x1)] L0 f0 (fun (r : Int) (L1 : List Nat) (f1 : Nat → va_E) => L0 = L1 ∧ GI cy L0 f1 ∧ Ex cy f0 f1 ∧ ((r = 0 ∧ (x1 < 0 ∨ 1 < x1 ∨ ni = -1) ∧ f1 = f0) ∨ (r = 1 ∧ 0 ≤ x1 ∧ x1 ≤ 1 ∧ 0 ≤ ni ∧ ∃ sh s : Nat, fR f0 a0 2 = some sh ∧ aR f0 im0 x1 = some s ∧ SR f1 sh rq gi ni ∧ SR f1 s ro gi ni ∧ Fo (PS sh rq) cy f0 f1 ∧ Fr0 f0 f1 ∧ CFO f0 f1 sh rq ro ni))) := by
  refine Ci.enter (cc := cX9_back) (n := 2) rfl (plainFor_of_name (by decide)) (Nat.le_of_ble_eq_true rfl) ?_
  intro p e s m below meth c ls A hx hb hr hts hown hlocks hnm hml hK hA hAe hw hZ hl
  have hown : s.vm.findClass RX9 = some m.cls := hown
  have hl : lv_has ls 2 [(0, .ref a0), (1, .int (iI x1))] := hl
  have hN : ZN s := (zo.2.2.2.2 _ _ _ hZ).2
  have hE : Ex cy f0 f0 := Ex.refl cy f0
  refine lv_iload_n hx hb dX9_back_0 rfl (lv_at hl 1 rfl) ?_
  refine q_if_lt (tgt := 22) hx hb dX9_back_1 (by decide) ⟨lx1, ux1⟩ (fun c1 => ?_) (fun c1 => ?_)
  · refine q_iconst hx hb dX9_back_22 ?_
    exact q_ret_z hx hb hr hlocks hK hAe hw (by omega) (Nat.le_of_ble_eq_true rfl) (Nat.le_of_ble_eq_true rfl) dX9_back_23 (by first | exact ⟨rfl, hg, hE, Or.inl ⟨by omega, by omega, rfl⟩⟩ | exact ⟨rfl, hg, hE, Or.inl ⟨by omega, Or.inr (Or.inr i18.1), rfl⟩⟩ | fail "none")
  · refine lv_iload_n hx hb dX9_back_4 rfl (lv_at hl 1 rfl) ?_
    refine lv_aload_n hx hb dX9_back_5 rfl (lv_at hl 0 rfl) ?_
    obtain ⟨r_1, er_1, m_r_1, o_r_1⟩ := (show ∃ r, fR f0 a0 3 = some r ∧ r ∈ L0 ∧ ArR f0 r cy.2.2.2.2 2 from hg.2.1 _ m_a0 7 3 o_a0)
    refine q_getr (ci := 7) (C := RX9) (T := TX9) (N := 4) hx hb hts (fun w h => List.mem_cons_of_mem _ (mfX90 w h)) hown hK hw m_a0 o_a0 rfl 3 (by decide) (hts _ (List.mem_cons_of_mem _ (mr1 _ (List.mem_of_getElem? (i := 21) rfl)))) (fun _ h => h) rfl er_1 dX9_back_6 ?_
    have zi : r_1 = im0 := Option.some.inj (er_1.symm.trans ei)
    refine q_alenR hx hb hK hw m_r_1 4 o_r_1 rfl dX9_back_9 ?_
    refine q_icmp_ge (tgt := 22) hx hb dX9_back_10 (by decide) ⟨lx1, ux1⟩ ⟨by decide, by decide⟩ (fun c10 => ?_) (fun c10 => ?_)
    · refine q_iconst hx hb dX9_back_22 ?_
      exact q_ret_z hx hb hr hlocks hK hAe hw (by omega) (Nat.le_of_ble_eq_true rfl) (Nat.le_of_ble_eq_true rfl) dX9_back_23 (by first | exact ⟨rfl, hg, hE, Or.inl ⟨by omega, by omega, rfl⟩⟩ | exact ⟨rfl, hg, hE, Or.inl ⟨by omega, Or.inr (Or.inr i18.1), rfl⟩⟩ | fail "none")
    · refine lv_aload_n hx hb dX9_back_13 rfl (lv_at hl 0 rfl) ?_
      refine q_getr (ci := 7) (C := RX9) (T := TX9) (N := 4) hx hb hts (fun w h => List.mem_cons_of_mem _ (mfX90 w h)) hown hK hw m_a0 o_a0 rfl 3 (by decide) (hts _ (List.mem_cons_of_mem _ (mr1 _ (List.mem_of_getElem? (i := 21) rfl)))) (fun _ h => h) rfl er_1 dX9_back_14 ?_
      have zi : r_1 = im0 := Option.some.inj (er_1.symm.trans ei)
      refine lv_iload_n hx hb dX9_back_17 rfl (lv_at hl 1 rfl) ?_
      rcases hg.2.2.2 _ m_r_1 x1 o_r_1 (by omega) (by omega) with er_3 | ⟨r_3, er_3, m_r_3, o_r_3⟩
      · refine q_aald hx hb hK hw m_r_1 4 o_r_1 rfl ⟨lx1, ux1⟩ (by omega) (by omega) er_3 dX9_back_18 ?_
        show W _ _ _ _ _ _ _ _ _ _ _ _ _ _ _ (F0 m 19 ls (.null :: []))
        have i18 := (ir ⟨by omega, by omega⟩).resolve_right (fun q => by obtain ⟨_, _, s, q1, _⟩ := q; rw [← zi, er_3] at q1; cases q1)
        refine lv_ifnonnullN hx hb dX9_back_19 ?_
        refine q_iconst hx hb dX9_back_22 ?_
        exact q_ret_z hx hb hr hlocks hK hAe hw (by omega) (Nat.le_of_ble_eq_true rfl) (Nat.le_of_ble_eq_true rfl) dX9_back_23 (by first | exact ⟨rfl, hg, hE, Or.inl ⟨by omega, by omega, rfl⟩⟩ | exact ⟨rfl, hg, hE, Or.inl ⟨by omega, Or.inr (Or.inr i18.1), rfl⟩⟩ | fail "none")
      · refine q_aald hx hb hK hw m_r_1 4 o_r_1 rfl ⟨lx1, ux1⟩ (by omega) (by omega) er_3 dX9_back_18 ?_
        show W _ _ _ _ _ _ _ _ _ _ _ _ _ _ _ (F0 m 19 ls (.ref r_3 :: []))
        have i18 := (ir ⟨by omega, by omega⟩).resolve_left (fun q => by have q1 := q.2; rw [← zi, er_3] at q1; cases q1)
        obtain ⟨n0, n1, s9, es, sr, dj⟩ := i18
        have zs : r_3 = s9 := Option.some.inj (er_3.symm.trans (by rw [zi]; exact es))
        refine lv_ifnonnull (tgt := 24) hx hb dX9_back_19 (by decide) ?_
        refine lv_aload_n hx hb dX9_back_24 rfl (lv_at hl 0 rfl) ?_
        obtain ⟨r_4, er_4, m_r_4, o_r_4⟩ := (show ∃ r, fR f0 a0 2 = some r ∧ r ∈ L0 ∧ Ob f0 r 5 from hg.2.1 _ m_a0 7 2 o_a0)
        refine q_getr (ci := 7) (C := RX9) (T := TX9) (N := 4) hx hb hts (fun w h => List.mem_cons_of_mem _ (mfX90 w h)) hown hK hw m_a0 o_a0 rfl 2 (by decide) (hts _ (List.mem_cons_of_mem _ (mr1 _ (List.mem_of_getElem? (i := 20) rfl)))) (fun _ h => h) rfl er_4 dX9_back_25 ?_
        have s1 := sx.at er_4
        have e25 := er_4
        refine lv_aload_n hx hb dX9_back_28 rfl (lv_at hl 0 rfl) ?_
        refine q_getr (ci := 7) (C := RX9) (T := TX9) (N := 4) hx hb hts (fun w h => List.mem_cons_of_mem _ (mfX90 w h)) hown hK hw m_a0 o_a0 rfl 3 (by decide) (hts _ (List.mem_cons_of_mem _ (mr1 _ (List.mem_of_getElem? (i := 21) rfl)))) (fun _ h => h) rfl er_1 dX9_back_29 ?_
        refine lv_iload_n hx hb dX9_back_32 rfl (lv_at hl 1 rfl) ?_
        refine q_aald hx hb hK hw m_r_1 4 o_r_1 rfl ⟨lx1, ux1⟩ (by omega) (by omega) er_3 dX9_back_33 ?_
        show W _ _ _ _ _ _ _ _ _ _ _ _ _ _ _ (F0 m 34 ls (.ref r_3 :: [.ref r_4]))
        refine q_call_v hA hK hw (va_runV (As := [.ref r_3]) (rest := []) ⟨hx, hb, hml, hown, hts⟩ (c_X7_copyFrom_o zo l D cy L0 f0 r_4 r_3 m_r_4 o_r_4 m_r_3 o_r_3 hg rq ro gi ni s1.1.1 (by rw [zs]; exact sr) (by omega) (by omega) dj (sf_ne s1.1.1 (by rw [zs]; exact sr.1) dj) (adr ⟨by omega, by omega⟩ (by omega)) _) (cwV 1 hts (gT (inV (mr44 _ (List.mem_of_getElem? (i := 18) rfl)) (mr44 _ (List.mem_of_getElem? (i := 19) rfl)) (mr44 _ (List.mem_of_getElem? (i := 20) rfl)) (mr1 _ (List.mem_of_getElem? (i := 19) rfl)) (mr44 _ (List.mem_of_getElem? (i := 21) rfl)))) rfl rfl rfl (by decide +kernel) ⟨Nat.le_of_ble_eq_true rfl, Nat.le_of_ble_eq_true rfl⟩) (Wd.preV zo hA hZ hw hK m_r_4 o_r_4 rfl) rfl rfl hl.1 rfl (lv_room (Nat.le_of_ble_eq_true rfl)) dX9_back_34 ⟨Nat.le_of_ble_eq_true rfl, Nat.le_of_ble_eq_true rfl⟩) (fun L1 f_7 H locs ex_6 hw => ?_)
        obtain ⟨rfl, hg, hX, ex_6⟩ := ex_6
        have hE := hE.trans hX
        have o_a0 := hX.1.1 _ _ o_a0
        have e34 := ex_6
        refine q_iconst hx hb dX9_back_37 ?_
        exact q_ret_z hx hb hr hlocks hK hAe hw (by omega) (Nat.le_of_ble_eq_true rfl) (Nat.le_of_ble_eq_true rfl) dX9_back_38 (by exact ⟨rfl, hg, hE, Or.inr ⟨by omega, by omega, by omega, by omega, _, s9, e25, es, e34.1.1, by rw [← zs]; exact e34.1.2.1, e34.1.2.2.1, e34.1.2.2.2, e34.2⟩⟩)
set_option maxHeartbeats 4000000 in
set_option maxRecDepth 100000 in
theorem c_X9_split_o {Z : Zt} (zo : Zok Z) (l : Launch) (D : va_G) (cy : Cy) (L0 : List Nat) (f0 : Nat → va_E) (a0 : Nat) (x1 : Int) (lx1 : -2147483648 ≤ x1) (ux1 : x1 ≤ 2147483647) (x2 : Int) (lx2 : -2147483648 ≤ x2) (ux2 : x2 ≤ 2147483647) (m_a0 : a0 ∈ L0) (o_a0 : Ob f0 a0 7) (hg : GI cy L0 f0) (rq : Int → Nat) (g : Int → Int) (mm : Int) (sx : SX f0 a0 rq g mm) (O : Int → Int) (oc : 0 ≤ x1 ∧ x1 < mm → OC f0 (rq x1) O) (adr : ∀ i j : Int, 0 ≤ i → i < 12 → 0 ≤ j → j < 12 → i ≠ j → AD f0 (rq i) (rq j)) (nar : ∀ i : Int, 0 ≤ i → i < 12 → KA f0 (rq i) ≠ TA f0 (rq i)) : Ci Z l yX9_split (Cond.code yX9_split cX9_split 4 (some .int) :: TB) ({ frames := 6, cells := 0, slots := 0, locals := 136 } : Room) 0 0 D (tq cy) [.ref a0, .int (iI x1), .int (iI x2)] L0 f0 (fun (r : Int) (L1 : List Nat) (f1 : Nat → va_E) => L0 = L1 ∧ GI cy L0 f1 ∧ Ex cy f0 f1 ∧ ((r = -1 ∧ (x1 < 0 ∨ mm ≤ x1 ∨ x2 < 0 ∨ 36524 < x2 ∨ 12 ≤ mm ∨ cn (KG g (44 * x1)) 0 x2 = 0 ∨ cn (KG g (44 * x1)) x2 36525 = 0) ∧ f1 = f0) ∨ (r = mm ∧ 0 ≤ x1 ∧ x1 < mm ∧ 0 ≤ x2 ∧ x2 ≤ 36524 ∧ mm < 12 ∧ cn (KG g (44 * x1)) 0 x2 ≠ 0 ∧ cn (KG g (44 * x1)) x2 36525 ≠ 0 ∧ ∃ (sh : Nat) (f9 : Nat → va_E), fR f0 a0 2 = some sh ∧ Fo (fun y => y = rq x1 ∨ y = rq mm) cy f0 f9 ∧ Fr0 f0 f9 ∧ RB f9 (rq x1) (HWd g (44 * x1) x2) (44 * x1) ∧ RB f9 (rq mm) (TWd g (44 * x1) x2) (44 * x1) ∧ RK f9 f1 sh ∧ fI f1 sh 1 = mm + 1 ∧ OC f9 (rq x1) (cutH O x2) ∧ OC f9 (rq mm) (cutT O x2) ∧ Em (fun y => y = rq x1 ∨ y = rq mm) f0 f9))) := by
  refine Ci.enter (cc := cX9_split) (n := 4) rfl (plainFor_of_name (by decide)) (Nat.le_of_ble_eq_true rfl) ?_
  intro p e s m below meth c ls A hx hb hr hts hown hlocks hnm hml hK hA hAe hw hZ hl
  have hown : s.vm.findClass RX9 = some m.cls := hown
  have hl : lv_has ls 4 [(0, .ref a0), (1, .int (iI x1)), (2, .int (iI x2))] := hl
  have hN : ZN s := (zo.2.2.2.2 _ _ _ hZ).2
  have hE : Ex cy f0 f0 := Ex.refl cy f0
  have oa7 := o_a0
  refine lv_aload_n hx hb dX9_split_0 rfl (lv_at hl 0 rfl) ?_
  obtain ⟨r_1, er_1, m_r_1, o_r_1⟩ := (show ∃ r, fR f0 a0 2 = some r ∧ r ∈ L0 ∧ Ob f0 r 5 from hg.2.1 _ m_a0 7 2 o_a0)
  refine q_getr (ci := 7) (C := RX9) (T := TX9) (N := 4) hx hb hts (fun w h => List.mem_cons_of_mem _ (mfX90 w h)) hown hK hw m_a0 o_a0 rfl 2 (by decide) (hts _ (List.mem_cons_of_mem _ (mr1 _ (List.mem_of_getElem? (i := 20) rfl)))) (fun _ h => h) rfl er_1 dX9_split_1 ?_
  have s1 := sx.at er_1
  refine lv_iload_n hx hb dX9_split_4 rfl (lv_at hl 1 rfl) ?_
  refine q_call_i hA hK hw (va_runV (As := [.int (iI x1)]) (rest := []) ⟨hx, hb, hml, hown, hts⟩ (c_X7_has_f zo l D cy L0 f0 r_1 x1 lx1 ux1 m_r_1 o_r_1 hg _) (cwV 1 hts (gT (inV (mr22 _ (List.mem_of_getElem? (i := 9) rfl)) (mr22 _ (List.mem_of_getElem? (i := 10) rfl)) (mr22 _ (List.mem_of_getElem? (i := 11) rfl)) (mr1 _ (List.mem_of_getElem? (i := 19) rfl)) (mr22 _ (List.mem_of_getElem? (i := 12) rfl)))) rfl rfl rfl (by decide +kernel) ⟨Nat.le_of_ble_eq_true rfl, Nat.le_of_ble_eq_true rfl⟩) (Wd.preV zo hA hZ hw hK m_r_1 o_r_1 rfl) rfl rfl hl.1 rfl (lv_room (Nat.le_of_ble_eq_true rfl)) dX9_split_5 ⟨Nat.le_of_ble_eq_true rfl, Nat.le_of_ble_eq_true rfl⟩) (fun x_2 L1 f1 H locs lx_2 ux_2 ex_2 hw => ?_)
  obtain ⟨rfl, rfl, ex_2⟩ := ex_2
  refine q_if_eq (tgt := 28) hx hb dX9_split_8 (by decide) ⟨lx_2, ux_2⟩ (fun c8 => ?_) (fun c8 => ?_)
  · refine q_iconst hx hb dX9_split_28 ?_
    exact q_ret_i hx hb hr hlocks hK hAe hw ⟨by decide, by decide⟩ (Nat.le_of_ble_eq_true rfl) (Nat.le_of_ble_eq_true rfl) dX9_split_29 (by exact ⟨rfl, hg, hE, Or.inl ⟨by omega, by omega, rfl⟩⟩)
  · refine lv_iload_n hx hb dX9_split_11 rfl (lv_at hl 2 rfl) ?_
    refine q_call_i hA hK hw (va_runS (As := [.int (iI x2)]) (rest := []) ⟨hx, hb, hml, hown, hts⟩ (c_X9_isDay zo l D cy L0 f0 x2 lx2 ux2 _) (va_cwS 1 hts (gT (inS (mr23 _ (List.mem_of_getElem? (i := 13) rfl)) (mr23 _ (List.mem_of_getElem? (i := 14) rfl)) (mr1 _ (List.mem_of_getElem? (i := 2) rfl)) (mr23 _ (List.mem_of_getElem? (i := 15) rfl)))) rfl rfl rfl (by decide +kernel) ⟨Nat.le_of_ble_eq_true rfl, Nat.le_of_ble_eq_true rfl⟩) (Wd.preS zo hA hZ hw hK) rfl rfl hl.1 rfl (lv_room (Nat.le_of_ble_eq_true rfl)) dX9_split_12 ⟨Nat.le_of_ble_eq_true rfl, Nat.le_of_ble_eq_true rfl⟩) (fun x_3 L1 f1 H locs lx_3 ux_3 ex_3 hw => ?_)
    obtain ⟨rfl, rfl, ex_3⟩ := ex_3
    refine q_if_eq (tgt := 28) hx hb dX9_split_15 (by decide) ⟨lx_3, ux_3⟩ (fun c15 => ?_) (fun c15 => ?_)
    · refine q_iconst hx hb dX9_split_28 ?_
      exact q_ret_i hx hb hr hlocks hK hAe hw ⟨by decide, by decide⟩ (Nat.le_of_ble_eq_true rfl) (Nat.le_of_ble_eq_true rfl) dX9_split_29 (by exact ⟨rfl, hg, hE, Or.inl ⟨by omega, by omega, rfl⟩⟩)
    · refine lv_aload_n hx hb dX9_split_18 rfl (lv_at hl 0 rfl) ?_
      refine q_getr (ci := 7) (C := RX9) (T := TX9) (N := 4) hx hb hts (fun w h => List.mem_cons_of_mem _ (mfX90 w h)) hown hK hw m_a0 o_a0 rfl 2 (by decide) (hts _ (List.mem_cons_of_mem _ (mr1 _ (List.mem_of_getElem? (i := 20) rfl)))) (fun _ h => h) rfl er_1 dX9_split_19 ?_
      have s1 := sx.at er_1
      refine q_call_i hA hK hw (va_runV (As := []) (rest := []) ⟨hx, hb, hml, hown, hts⟩ (c_X7_isFull_f zo l D cy L0 f0 r_1 m_r_1 o_r_1 hg _) (cwV 0 hts (gT (inV (mr5 _ (List.mem_of_getElem? (i := 19) rfl)) (mr5 _ (List.mem_of_getElem? (i := 20) rfl)) (mr5 _ (List.mem_of_getElem? (i := 21) rfl)) (mr1 _ (List.mem_of_getElem? (i := 19) rfl)) (mr5 _ (List.mem_of_getElem? (i := 22) rfl)))) rfl rfl rfl (by decide +kernel) ⟨Nat.le_of_ble_eq_true rfl, Nat.le_of_ble_eq_true rfl⟩) (Wd.preV zo hA hZ hw hK m_r_1 o_r_1 rfl) rfl rfl hl.1 rfl (lv_room (Nat.le_of_ble_eq_true rfl)) dX9_split_22 ⟨Nat.le_of_ble_eq_true rfl, Nat.le_of_ble_eq_true rfl⟩) (fun x_4 L1 f1 H locs lx_4 ux_4 ex_4 hw => ?_)
      obtain ⟨rfl, rfl, ex_4⟩ := ex_4
      refine q_if_eq (tgt := 30) hx hb dX9_split_25 (by decide) ⟨lx_4, ux_4⟩ (fun c25 => ?_) (fun c25 => ?_)
      · refine lv_aload_n hx hb dX9_split_30 rfl (lv_at hl 0 rfl) ?_
        refine q_getr (ci := 7) (C := RX9) (T := TX9) (N := 4) hx hb hts (fun w h => List.mem_cons_of_mem _ (mfX90 w h)) hown hK hw m_a0 o_a0 rfl 2 (by decide) (hts _ (List.mem_cons_of_mem _ (mr1 _ (List.mem_of_getElem? (i := 20) rfl)))) (fun _ h => h) rfl er_1 dX9_split_31 ?_
        have s1 := sx.at er_1
        have e31 := er_1
        refine lv_iload_n hx hb dX9_split_34 rfl (lv_at hl 1 rfl) ?_
        refine q_call_r hA hK hw (va_runV (As := [.int (iI x1)]) (rest := []) ⟨hx, hb, hml, hown, hts⟩ (c_X7_at_f zo l D cy L0 f0 r_1 x1 lx1 ux1 m_r_1 o_r_1 hg (by omega) (by omega) _) (cwV 1 hts (gT (inV (mr24 _ (List.mem_of_getElem? (i := 8) rfl)) (mr24 _ (List.mem_of_getElem? (i := 9) rfl)) (mr24 _ (List.mem_of_getElem? (i := 10) rfl)) (mr1 _ (List.mem_of_getElem? (i := 19) rfl)) (mr24 _ (List.mem_of_getElem? (i := 11) rfl)))) rfl rfl rfl (by decide +kernel) ⟨Nat.le_of_ble_eq_true rfl, Nat.le_of_ble_eq_true rfl⟩) (Wd.preV zo hA hZ hw hK m_r_1 o_r_1 rfl) rfl rfl hl.1 rfl (lv_room (Nat.le_of_ble_eq_true rfl)) dX9_split_35 ⟨Nat.le_of_ble_eq_true rfl, Nat.le_of_ble_eq_true rfl⟩) (fun x_5 L1 f1 H locs ex_5 hw => ?_)
        obtain ⟨rfl, rfl, ex_5⟩ := ex_5
        obtain ⟨m_x_5, o_x_5, ex_5⟩ := ex_5
        have rb := s1.1.rb ex_5 (by omega) (by omega) (by omega)
        have gx := s1.1.row ex_5 (by omega) (by omega)
        refine lv_astore_n (lv' := [(3, .ref x_5), (0, .ref a0), (1, .int (iI x1)), (2, .int (iI x2))]) hx hb dX9_split_38 rfl hl (by decide) rfl (fun ls hl => ?_)
        refine lv_aload_n hx hb dX9_split_39 rfl (lv_at hl 0 rfl) ?_
        refine q_iconst hx hb dX9_split_40 ?_
        refine lv_iload_n hx hb dX9_split_41 rfl (lv_at hl 3 rfl) ?_
        refine q_iconst hx hb dX9_split_42 ?_
        first | refine q_isub hx hb dX9_split_43 ⟨by omega, by omega⟩ (fun x_6 lx_6 ux_6 ex_6 => ?_) | refine q_isubw hx hb dX9_split_43 (fun x_6 lx_6 ux_6 _ => ?_)
        refine q_call_i hA hK hw (va_runV (As := [.int (iI 0), .int (iI x_6)]) (rest := []) ⟨hx, hb, hml, hown, hts⟩ (c_X0_keysIn_g zo l D cy L0 f0 x_5 0 (by decide) (by decide) x_6 lx_6 ux_6 m_x_5 o_x_5 hg g (44 * x1) rb _) (cwV 2 hts (gT (inV (mr25 _ (List.mem_of_getElem? (i := 16) rfl)) (mr25 _ (List.mem_of_getElem? (i := 17) rfl)) (mr25 _ (List.mem_of_getElem? (i := 18) rfl)) (mr2 _ (List.mem_of_getElem? (i := 9) rfl)) (mr25 _ (List.mem_of_getElem? (i := 19) rfl)))) rfl rfl rfl (by decide +kernel) ⟨Nat.le_of_ble_eq_true rfl, Nat.le_of_ble_eq_true rfl⟩) (Wd.preV zo hA hZ hw hK m_x_5 o_x_5 rfl) rfl rfl hl.1 rfl (lv_room (Nat.le_of_ble_eq_true rfl)) dX9_split_44 ⟨Nat.le_of_ble_eq_true rfl, Nat.le_of_ble_eq_true rfl⟩) (fun x_7 L1 f1 H locs lx_7 ux_7 ex_7 hw => ?_)
        obtain ⟨rfl, rfl, ex_7⟩ := ex_7
        have c44 : x_7 = cn (KG g (44 * x1)) 0 x2 := ex_7.trans (by rw [show x_6 + 1 = x2 by omega])
        clear ex_7
        refine q_if_eq (tgt := 60) hx hb dX9_split_47 (by decide) ⟨lx_7, ux_7⟩ (fun c47 => ?_) (fun c47 => ?_)
        · refine q_iconst hx hb dX9_split_60 ?_
          exact q_ret_i hx hb hr hlocks hK hAe hw ⟨by decide, by decide⟩ (Nat.le_of_ble_eq_true rfl) (Nat.le_of_ble_eq_true rfl) dX9_split_61 (by exact ⟨rfl, hg, hE, Or.inl ⟨by omega, by omega, rfl⟩⟩)
        · refine lv_aload_n hx hb dX9_split_50 rfl (lv_at hl 0 rfl) ?_
          refine lv_iload_n hx hb dX9_split_51 rfl (lv_at hl 3 rfl) ?_
          refine q_ldc (n := 36524) hx hb hown (hts _ (List.mem_cons_of_mem _ (mr23 _ (List.mem_of_getElem? (i := 16) rfl)))) rfl dX9_split_52 ?_
          refine q_call_i hA hK hw (va_runV (As := [.int (iI x2), .int (iI 36524)]) (rest := []) ⟨hx, hb, hml, hown, hts⟩ (c_X0_keysIn_g zo l D cy L0 f0 x_5 x2 lx2 ux2 36524 (by decide) (by decide) m_x_5 o_x_5 hg g (44 * x1) rb _) (cwV 2 hts (gT (inV (mr25 _ (List.mem_of_getElem? (i := 16) rfl)) (mr25 _ (List.mem_of_getElem? (i := 17) rfl)) (mr25 _ (List.mem_of_getElem? (i := 18) rfl)) (mr2 _ (List.mem_of_getElem? (i := 9) rfl)) (mr25 _ (List.mem_of_getElem? (i := 19) rfl)))) rfl rfl rfl (by decide +kernel) ⟨Nat.le_of_ble_eq_true rfl, Nat.le_of_ble_eq_true rfl⟩) (Wd.preV zo hA hZ hw hK m_x_5 o_x_5 rfl) rfl rfl hl.1 rfl (lv_room (Nat.le_of_ble_eq_true rfl)) dX9_split_54 ⟨Nat.le_of_ble_eq_true rfl, Nat.le_of_ble_eq_true rfl⟩) (fun x_8 L1 f1 H locs lx_8 ux_8 ex_8 hw => ?_)
          obtain ⟨rfl, rfl, ex_8⟩ := ex_8
          have c54 : x_8 = cn (KG g (44 * x1)) x2 36525 := ex_8
          clear ex_8
          refine q_if_ne (tgt := 62) hx hb dX9_split_57 (by decide) ⟨lx_8, ux_8⟩ (fun c57 => ?_) (fun c57 => ?_)
          · refine lv_aload_n hx hb dX9_split_62 rfl (lv_at hl 0 rfl) ?_
            refine lv_aload_n hx hb dX9_split_63 rfl (lv_at hl 1 rfl) ?_
            refine q_getr (ci := 7) (C := RX9) (T := TX9) (N := 4) hx hb hts (fun w h => List.mem_cons_of_mem _ (mfX90 w h)) hown hK hw m_a0 o_a0 rfl 2 (by decide) (hts _ (List.mem_cons_of_mem _ (mr1 _ (List.mem_of_getElem? (i := 20) rfl)))) (fun _ h => h) rfl er_1 dX9_split_64 ?_
            have s1 := sx.at er_1
            have e64 := er_1
            refine q_call_r hA hK hw (va_runV (As := []) (rest := [.ref x_5]) ⟨hx, hb, hml, hown, hts⟩ (c_X7_spare_f zo l D cy L0 f0 r_1 m_r_1 o_r_1 hg (by omega) _) (cwV 0 hts (gT (inV (mr6 _ (List.mem_of_getElem? (i := 17) rfl)) (mr6 _ (List.mem_of_getElem? (i := 18) rfl)) (mr6 _ (List.mem_of_getElem? (i := 19) rfl)) (mr1 _ (List.mem_of_getElem? (i := 19) rfl)) (mr6 _ (List.mem_of_getElem? (i := 20) rfl)))) rfl rfl rfl (by decide +kernel) ⟨Nat.le_of_ble_eq_true rfl, Nat.le_of_ble_eq_true rfl⟩) (Wd.preV zo hA hZ hw hK m_r_1 o_r_1 rfl) rfl rfl hl.1 rfl (lv_room (Nat.le_of_ble_eq_true rfl)) dX9_split_67 ⟨Nat.le_of_ble_eq_true rfl, Nat.le_of_ble_eq_true rfl⟩) (fun x_9 L1 f1 H locs ex_9 hw => ?_)
            obtain ⟨rfl, rfl, ex_9⟩ := ex_9
            obtain ⟨m_x_9, o_x_9, ex_9⟩ := ex_9
            have gy := (s1.1.row ex_9 (by omega) (by omega)).trans (by rw [s1.2.1])
            have nxy := row_ne s1.1.1.2.2.2 gx gy (by omega) (by omega) (by omega) (by omega) (by omega)
            have kx1 := cn_ex (p := KG g (44 * x1)) (a := 0) (b := x2) (by omega)
            have kx2 := cn_ex (p := KG g (44 * x1)) (a := x2) (b := 36525) (by omega)
            have osh := s1.1.1.1
            refine lv_iload_n hx hb dX9_split_70 rfl (lv_at hl 3 rfl) ?_
            refine q_call_v hA hK hw (va_runV (As := [.ref x_9, .int (iI x2)]) (rest := []) ⟨hx, hb, hml, hown, hts⟩ (c_X0_cutInto_o zo l D cy L0 f0 x_5 x_9 x2 lx2 ux2 m_x_5 o_x_5 m_x_9 o_x_9 hg nxy g (44 * x1) rb ⟨_, kx1.choose_spec.2.1, kx1.choose_spec.2.2⟩ ⟨_, kx2.choose_spec.1, kx2.choose_spec.2.2⟩ O (by rw [gx]; exact oc ⟨by omega, by omega⟩) (by rw [gx, gy]; exact adr _ _ (by omega) (by omega) (by omega) (by omega) (by omega)) (by rw [gx]; exact nar _ (by omega) (by omega)) (by rw [gy]; exact nar _ (by omega) (by omega)) _) (cwV 2 hts (gT (inV (mr40 _ (List.mem_of_getElem? (i := 11) rfl)) (mr40 _ (List.mem_of_getElem? (i := 12) rfl)) (mr40 _ (List.mem_of_getElem? (i := 13) rfl)) (mr2 _ (List.mem_of_getElem? (i := 9) rfl)) (mr40 _ (List.mem_of_getElem? (i := 14) rfl)))) rfl rfl rfl (by decide +kernel) ⟨Nat.le_of_ble_eq_true rfl, Nat.le_of_ble_eq_true rfl⟩) (Wd.preV zo hA hZ hw hK m_x_5 o_x_5 rfl) rfl rfl hl.1 rfl (lv_room (Nat.le_of_ble_eq_true rfl)) dX9_split_71 ⟨Nat.le_of_ble_eq_true rfl, Nat.le_of_ble_eq_true rfl⟩) (fun L1 f_11 H locs ex_10 hw => ?_)
            obtain ⟨rfl, hg, hX, ex_10⟩ := ex_10
            have hE := hE.trans hX
            have o_x_5 := hX.1.1 _ _ o_x_5
            have o_a0 := hX.1.1 _ _ o_a0
            obtain ⟨⟨cF, cR, ca, ct⟩, oh9, ot9, eM⟩ := ex_10
            have cF : Fo (fun y => y = rq x1 ∨ y = rq mm) cy f0 f_11 := cF.mono (fun y h => h.elim (fun h => Or.inl (h.trans gx)) (fun h => Or.inr (h.trans gy)))
            rw [gx] at ca
            rw [gy] at ct
            have e2 := fR_W (hX.2.1 a0 2 oa7)
            obtain ⟨f9, ef9⟩ : ∃ z : Nat → va_E, z = f_11 := ⟨_, rfl⟩
            have sz := fsz cF osh s1.1.1.2.2.1 (by omega) (by omega) (by omega) (by omega)
            rw [gx] at oh9
            rw [gy] at ot9
            have eM : Em (fun y => y = rq x1 ∨ y = rq mm) f0 f_11 := eM.mono (fun y h => h.elim (fun h => Or.inl (h.trans gx)) (fun h => Or.inr (h.trans gy)))
            refine lv_aload_n hx hb dX9_split_74 rfl (lv_at hl 1 rfl) ?_
            obtain ⟨r_12, er_12, m_r_12, o_r_12⟩ := (show ∃ r, fR f_11 a0 2 = some r ∧ r ∈ L0 ∧ Ob f_11 r 5 from hg.2.1 _ m_a0 7 2 o_a0)
            refine q_getr (ci := 7) (C := RX9) (T := TX9) (N := 4) hx hb hts (fun w h => List.mem_cons_of_mem _ (mfX90 w h)) hown hK hw m_a0 o_a0 rfl 2 (by decide) (hts _ (List.mem_cons_of_mem _ (mr1 _ (List.mem_of_getElem? (i := 20) rfl)))) (fun _ h => h) rfl er_12 dX9_split_75 ?_
            have e75 := er_12
            refine q_call_i hA hK hw (va_runV (As := []) (rest := []) ⟨hx, hb, hml, hown, hts⟩ (c_X7_keepSpare_f zo l D cy L0 f_11 r_12 m_r_12 o_r_12 hg (by rw [show _ = _ from Option.some.inj (e75.symm.trans (e2.trans e64)), sz]; omega) _) (cwV 0 hts (gT (inV (mr18 _ (List.mem_of_getElem? (i := 16) rfl)) (mr18 _ (List.mem_of_getElem? (i := 17) rfl)) (mr18 _ (List.mem_of_getElem? (i := 18) rfl)) (mr1 _ (List.mem_of_getElem? (i := 19) rfl)) (mr18 _ (List.mem_of_getElem? (i := 19) rfl)))) rfl rfl rfl (by decide +kernel) ⟨Nat.le_of_ble_eq_true rfl, Nat.le_of_ble_eq_true rfl⟩) (Wd.preV zo hA hZ hw hK m_r_12 o_r_12 rfl) rfl rfl hl.1 rfl (lv_room (Nat.le_of_ble_eq_true rfl)) dX9_split_78 ⟨Nat.le_of_ble_eq_true rfl, Nat.le_of_ble_eq_true rfl⟩) (fun x_13 L1 f_14 H locs lx_13 ux_13 ex_13 hw => ?_)
            obtain ⟨rfl, hg, hX, ex_13⟩ := ex_13
            have hE := hE.trans hX
            have o_x_5 := hX.1.1 _ _ o_x_5
            have o_a0 := hX.1.1 _ _ o_a0
            have e78 := ex_13
            exact q_ret_i hx hb hr hlocks hK hAe hw ⟨lx_13, ux_13⟩ (Nat.le_of_ble_eq_true rfl) (Nat.le_of_ble_eq_true rfl) dX9_split_81 (by exact ⟨rfl, hg, hE, split_endo e78 (e75.symm.trans (e2.trans e64)) sz s1.2.1 (by omega) (by omega) (by omega) (by omega) (by omega) (by omega) (by omega) (by omega) e64 cF cR ca ct oh9 ot9 eM⟩)
          · refine q_iconst hx hb dX9_split_60 ?_
            exact q_ret_i hx hb hr hlocks hK hAe hw ⟨by decide, by decide⟩ (Nat.le_of_ble_eq_true rfl) (Nat.le_of_ble_eq_true rfl) dX9_split_61 (by exact ⟨rfl, hg, hE, Or.inl ⟨by omega, by omega, rfl⟩⟩)
      · refine q_iconst hx hb dX9_split_28 ?_
        exact q_ret_i hx hb hr hlocks hK hAe hw ⟨by decide, by decide⟩ (Nat.le_of_ble_eq_true rfl) (Nat.le_of_ble_eq_true rfl) dX9_split_29 (by exact ⟨rfl, hg, hE, Or.inl ⟨by omega, by omega, rfl⟩⟩)
