/-! ===== tokens: T the bytes, n how many ===== -/
def tyA (T : Int → Int) (n i : Int) : Int := if n ≤ i then 0 else if 97 ≤ T i ∧ T i ≤ 122 then 1 else if 48 ≤ T i ∧ T i ≤ 57 then 2 else 3
theorem tyA_b (T : Int → Int) (n i : Int) : 0 ≤ tyA T n i ∧ tyA T n i ≤ 3 := by
  unfold tyA
  split
  · omega
  · split
    · omega
    · split <;> omega
def skF (T : Int → Int) (n : Int) : Nat → Int → Int
  | 0, e => e
  | k + 1, e => if e < n ∧ T e = 32 then skF T n k (e + 1) else e
def tP (T : Int → Int) (n e : Int) : Int := skF T n (n - e).toNat e
theorem tP_go {T : Int → Int} {n e : Int} (h : e < n) (g : T e = 32) : tP T n e = tP T n (e + 1) := by
  unfold tP
  rw [show (n - e).toNat = (n - (e + 1)).toNat + 1 by omega]
  show (if e < n ∧ T e = 32 then skF T n _ (e + 1) else e) = _
  rw [if_pos ⟨h, g⟩]
theorem tP_end {T : Int → Int} {n e : Int} (h : n ≤ e ∨ T e ≠ 32) : tP T n e = e := by
  unfold tP
  cases hk : (n - e).toNat with
  | zero => rfl
  | succ k =>
    show (if e < n ∧ T e = 32 then skF T n _ (e + 1) else e) = _
    rw [if_neg (fun q => h.elim (fun z => by omega) (fun z => z q.2))]
theorem skF_b {T : Int → Int} {n : Int} (k : Nat) : ∀ e : Int, e ≤ n → e ≤ skF T n k e ∧ skF T n k e ≤ n := by
  induction k with
  | zero => intro e h; exact ⟨Int.le_refl _, h⟩
  | succ k ih =>
    intro e h
    show e ≤ (if e < n ∧ T e = 32 then skF T n k (e + 1) else e) ∧ (if e < n ∧ T e = 32 then skF T n k (e + 1) else e) ≤ n
    split
    · have := ih (e + 1) (by omega); omega
    · omega
theorem tP_b {T : Int → Int} {n e : Int} (h : e ≤ n) : e ≤ tP T n e ∧ tP T n e ≤ n := skF_b _ e h
def rnF (T : Int → Int) (n ty : Int) : Nat → Int → Int
  | 0, q => q
  | k + 1, q => if q < n ∧ tyA T n q = ty then rnF T n ty k (q + 1) else q
def rn (T : Int → Int) (n ty q : Int) : Int := rnF T n ty (n - q).toNat q
theorem rn_go {T : Int → Int} {n ty q : Int} (h : q < n) (g : tyA T n q = ty) : rn T n ty q = rn T n ty (q + 1) := by
  unfold rn
  rw [show (n - q).toNat = (n - (q + 1)).toNat + 1 by omega]
  show (if q < n ∧ tyA T n q = ty then rnF T n ty _ (q + 1) else q) = _
  rw [if_pos ⟨h, g⟩]
theorem rn_end {T : Int → Int} {n ty q : Int} (h : n ≤ q ∨ tyA T n q ≠ ty) : rn T n ty q = q := by
  unfold rn
  cases hk : (n - q).toNat with
  | zero => rfl
  | succ k =>
    show (if q < n ∧ tyA T n q = ty then rnF T n ty _ (q + 1) else q) = _
    rw [if_neg (fun z => h.elim (fun y => by omega) (fun y => y z.2))]
theorem rnF_b {T : Int → Int} {n ty : Int} (k : Nat) : ∀ q : Int, q ≤ n → q ≤ rnF T n ty k q ∧ rnF T n ty k q ≤ n ∧ ∀ i : Int, q ≤ i → i < rnF T n ty k q → tyA T n i = ty := by
  induction k with
  | zero => intro q h; exact ⟨Int.le_refl _, h, fun i h0 h1 => absurd h1 (by show ¬ i < q; omega)⟩
  | succ k ih =>
    intro q h
    show q ≤ (if q < n ∧ tyA T n q = ty then rnF T n ty k (q + 1) else q) ∧ (if q < n ∧ tyA T n q = ty then rnF T n ty k (q + 1) else q) ≤ n ∧ ∀ i : Int, q ≤ i → i < (if q < n ∧ tyA T n q = ty then rnF T n ty k (q + 1) else q) → tyA T n i = ty
    split
    · rename_i c
      obtain ⟨a, b, d⟩ := ih (q + 1) (by omega)
      refine ⟨by omega, b, fun i h0 h1 => ?_⟩
      by_cases e : i = q
      · rw [e]; exact c.2
      · exact d i (by omega) h1
    · exact ⟨Int.le_refl _, h, fun i h0 h1 => by omega⟩
def tQ (T : Int → Int) (n e : Int) : Int := if tyA T n (tP T n e) = 3 then tP T n e else rn T n (tyA T n (tP T n e)) (tP T n e)
theorem tQ_b {T : Int → Int} {n e : Int} (h : e ≤ n) : tP T n e ≤ tQ T n e ∧ tQ T n e ≤ n := by
  have a := tP_b (T := T) h
  unfold tQ
  split
  · omega
  · have := rnF_b (T := T) (ty := tyA T n (tP T n e)) (n - tP T n e).toNat (tP T n e) a.2
    exact ⟨this.1, this.2.1⟩
theorem tQ_all {T : Int → Int} {n e : Int} (h : e ≤ n) : ∀ i : Int, tP T n e ≤ i → i < tQ T n e → tyA T n i = tyA T n (tP T n e) := by
  have a := tP_b (T := T) h
  unfold tQ
  split
  · intro i h0 h1; omega
  · exact (rnF_b (T := T) (ty := tyA T n (tP T n e)) (n - tP T n e).toNat (tP T n e) a.2).2.2
theorem tQ_3 {T : Int → Int} {n e : Int} (h : tyA T n (tP T n e) = 3) : tQ T n e = tP T n e := by unfold tQ; rw [if_pos h]
theorem tQ_r {T : Int → Int} {n e : Int} (h : tyA T n (tP T n e) ≠ 3) : tQ T n e = rn T n (tyA T n (tP T n e)) (tP T n e) := by unfold tQ; rw [if_neg h]
theorem tyA_2 {T : Int → Int} {n i : Int} (h : tyA T n i = 2) : i < n ∧ 48 ≤ T i ∧ T i ≤ 57 := by
  unfold tyA at h
  split at h
  · omega
  · split at h
    · omega
    · split at h
      · omega
      · omega
theorem tyA_1 {T : Int → Int} {n i : Int} (h : tyA T n i = 1) : i < n ∧ 97 ≤ T i ∧ T i ≤ 122 := by
  unfold tyA at h
  split at h
  · omega
  · split at h
    · omega
    · split at h
      · omega
      · omega
/-- a number's value -/
def nvF (T : Int → Int) (p : Int) : Nat → Int
  | 0 => 0
  | k + 1 => 10 * nvF T p k + T (p + k) - 48
def nv (T : Int → Int) (p q : Int) : Int := nvF T p (q - p).toNat
theorem nv_0 {T : Int → Int} {p q : Int} (h : q ≤ p) : nv T p q = 0 := by unfold nv; rw [show (q - p).toNat = 0 by omega]; rfl
theorem nv_go {T : Int → Int} {p q q' : Int} (h : p ≤ q) (e : q' = q + 1) : nv T p q' = 10 * nv T p q + T q - 48 := by
  unfold nv
  rw [e, show (q + 1 - p).toNat = (q - p).toNat + 1 by omega]
  show 10 * nvF T p (q - p).toNat + T (p + (((q - p).toNat : Nat) : Int)) - 48 = _
  rw [show p + (((q - p).toNat : Nat) : Int) = q by omega]
/-- a word is told: the token's signs are b -/
def isW (T : Int → Int) (n e : Int) (b : List Int32) : Prop := tyA T n (tP T n e) = 1 ∧ tQ T n e - tP T n e = (b.length : Int) ∧ ∀ i : Int, 0 ≤ i → i < (b.length : Int) → T (tP T n e + i) = (b.getD i.toNat 0).toInt
/-- what a reader looks at -/
def RS (T : Int → Int) (n : Int) (f : Nat → va_E) (a : Nat) (e : Int) : Prop := fI f a 2 = tyA T n (tP T n e) ∧ fI f a 3 = tP T n e ∧ fI f a 4 = tQ T n e
def OA (f g : Nat → va_E) (a : Nat) : Prop := ∀ y : Nat, y ≠ a → g y = f y
def K5 (f g : Nat → va_E) (a : Nat) : Prop := fI g a 5 = fI f a 5 ∧ fI g a 6 = fI f a 6 ∧ fI g a 7 = fI f a 7 ∧ fI g a 8 = fI f a 8 ∧ fI g a 9 = fI f a 9
/-- the reader's text -/
def RT (T : Int → Int) (n : Int) (f : Nat → va_E) (a tp : Nat) : Prop := fR f a 0 = some tp ∧ fI f a 1 = n ∧ 0 ≤ n ∧ n ≤ 160 ∧ a ≠ tp ∧ ∀ i : Int, 0 ≤ i → i < 168 → aI f tp i = T i
theorem OA.refl (f : Nat → va_E) (a : Nat) : OA f f a := fun _ _ => rfl
theorem OA.trans {f g h : Nat → va_E} {a : Nat} (x : OA f g a) (y : OA g h a) : OA f h a := fun z q => (y z q).trans (x z q)
theorem OA.put {f0 f g : Nat → va_E} {a k : Nat} {v : Value} (h : OA f0 f a) (e : g = pU f a k v) : OA f0 g a := by rw [e]; exact fun y q => (pU_ne q).trans (h y q)
theorem K5.refl (f : Nat → va_E) (a : Nat) : K5 f f a := ⟨rfl, rfl, rfl, rfl, rfl⟩
theorem K5.trans {f g h : Nat → va_E} {a : Nat} (x : K5 f g a) (y : K5 g h a) : K5 f h a := ⟨y.1.trans x.1, y.2.1.trans x.2.1, y.2.2.1.trans x.2.2.1, y.2.2.2.1.trans x.2.2.2.1, y.2.2.2.2.trans x.2.2.2.2⟩
theorem K5.put {f0 f g : Nat → va_E} {a k : Nat} {v : Value} (h : K5 f0 f a) (e : g = pU f a k v) (hk : k ≤ 4) : K5 f0 g a := by
  rw [e]
  exact ⟨(fI_pU (Or.inr (by omega))).trans h.1, (fI_pU (Or.inr (by omega))).trans h.2.1, (fI_pU (Or.inr (by omega))).trans h.2.2.1, (fI_pU (Or.inr (by omega))).trans h.2.2.2.1, (fI_pU (Or.inr (by omega))).trans h.2.2.2.2⟩
theorem RT.put {T : Int → Int} {n : Int} {f g : Nat → va_E} {a tp k : Nat} {v : Value} (h : RT T n f a tp) (e : g = pU f a k v) (hk : 2 ≤ k) : RT T n g a tp := by
  rw [e]
  obtain ⟨h1, h2, h3, h4, h5, h6⟩ := h
  refine ⟨(fR_pU (Or.inr (by omega))).trans h1, (fI_pU (Or.inr (by omega))).trans h2, h3, h4, h5, fun i i0 i1 => ?_⟩
  have : aI (pU f a k v) tp i = aI f tp i := by unfold aI; rw [pU_ne (fun z => h5 z.symm)]
  rw [this]; exact h6 i i0 i1
theorem RT.oa {T : Int → Int} {n : Int} {f g : Nat → va_E} {a tp : Nat} (h : RT T n f a tp) (o : OA f g a) (e0 : fV g a 0 = fV f a 0) (e1 : fV g a 1 = fV f a 1) : RT T n g a tp := by
  obtain ⟨h1, h2, h3, h4, h5, h6⟩ := h
  refine ⟨(fR_W e0).trans h1, (fI_W e1).trans h2, h3, h4, h5, fun i i0 i1 => ?_⟩
  have : aI g tp i = aI f tp i := by unfold aI; rw [o tp (fun z => h5 z.symm)]
  rw [this]; exact h6 i i0 i1
theorem RT.at {T : Int → Int} {n : Int} {f : Nat → va_E} {a tp r : Nat} (h : RT T n f a tp) (e : fR f a 0 = some r) {i x : Int} (ex : x = aI f r i) (i0 : 0 ≤ i) (i1 : i < 168) : x = T i := by
  rw [ex, Option.some.inj (e.symm.trans h.1)]; exact h.2.2.2.2.2 i i0 i1
theorem tyA_of {T : Int → Int} {n i r : Int} (h : (n ≤ i ∧ r = 0) ∨ (i < n ∧ 97 ≤ T i ∧ T i ≤ 122 ∧ r = 1) ∨ (i < n ∧ (T i < 97 ∨ 122 < T i) ∧ 48 ≤ T i ∧ T i ≤ 57 ∧ r = 2) ∨ (i < n ∧ (T i < 97 ∨ 122 < T i) ∧ (T i < 48 ∨ 57 < T i) ∧ r = 3)) : r = tyA T n i := by
  unfold tyA
  rcases h with h | h | h | h
  · rw [if_pos h.1]; exact h.2
  · rw [if_neg (by omega), if_pos ⟨h.2.1, h.2.2.1⟩]; exact h.2.2.2
  · rw [if_neg (by omega), if_neg (by omega), if_pos ⟨h.2.2.1, h.2.2.2.1⟩]; exact h.2.2.2.2
  · rw [if_neg (by omega), if_neg (by omega), if_neg (by omega)]; exact h.2.2.2
theorem tP_of {T : Int → Int} {n e p : Int} (h : tP T n e = tP T n p) (g : n ≤ p ∨ T p ≠ 32) : p = tP T n e := by rw [h, tP_end g]
theorem tP_st {T : Int → Int} {n e p p' : Int} (h : tP T n e = tP T n p) (g0 : p < n) (g : T p = 32) (e' : p' = p + 1) : tP T n e = tP T n p' := by rw [h, tP_go g0 g, e']
theorem rn_st {T : Int → Int} {n ty q q' z : Int} (h : z = rn T n ty q) (g0 : q < n) (g : tyA T n q = ty) (e' : q' = q + 1) : z = rn T n ty q' := by rw [h, rn_go g0 g, e']
theorem tQ_ex {T : Int → Int} {n e q : Int} (q3 : tyA T n (tP T n e) = 3 → q = tP T n e) (qr : tyA T n (tP T n e) ≠ 3 → tQ T n e = rn T n (tyA T n (tP T n e)) q) (g : tyA T n (tP T n e) = 3 ∨ n ≤ q ∨ tyA T n q ≠ tyA T n (tP T n e)) : q = tQ T n e := by
  by_cases c : tyA T n (tP T n e) = 3
  · rw [tQ_3 c]; exact q3 c
  · rw [qr c, rn_end (by rcases g with g | g; exact absurd g c; exact g)]
theorem tsub {T : Int → Int} {x i j c : Int} (h : x = T i) (e : i = j ∧ x = c) : T j = c := by rw [← e.1, ← h]; exact e.2
theorem tsub' {T : Int → Int} {x i j c : Int} (h : x = T i) (q : T j = c) (e : i = j) : x = c := by rw [h, e]; exact q
set_option maxHeartbeats 4000000 in
set_option maxRecDepth 100000 in
theorem c_X5_typeAt_p {Z : Zt} (zo : Zok Z) (l : Launch) (D : va_G) (cy : Cy) (L0 : List Nat) (f0 : Nat → va_E) (a0 : Nat) (x1 : Int) (lx1 : -2147483648 ≤ x1) (ux1 : x1 ≤ 2147483647) (m_a0 : a0 ∈ L0) (o_a0 : Ob f0 a0 4) (hg : GI cy L0 f0) (Tt : Int → Int) (nn : Int) (tp : Nat) (rt : RT Tt nn f0 a0 tp) (h1 : 0 ≤ x1) : Ci Z l yX5_typeAt (Cond.code yX5_typeAt cX5_typeAt 3 (some .int) :: TB) ({ frames := 0, cells := 0, slots := 0, locals := 0 } : Room) 0 0 D (tq cy) [.ref a0, .int (iI x1)] L0 f0 (fun (r : Int) (L1 : List Nat) (f1 : Nat → va_E) => L0 = L1 ∧ f0 = f1 ∧ (r = tyA Tt nn x1)) := by
  refine Ci.enter (cc := cX5_typeAt) (n := 3) rfl (plainFor_of_name (by decide)) (Nat.le_of_ble_eq_true rfl) ?_
  intro p e s m below meth c ls A hx hb hr hts hown hlocks hnm hml hK hA hAe hw hZ hl
  have hown : s.vm.findClass RX5 = some m.cls := hown
  have hl : lv_has ls 3 [(0, .ref a0), (1, .int (iI x1))] := hl
  have hN : ZN s := (zo.2.2.2.2 _ _ _ hZ).2
  have nb0 := rt.2.2.1
  have nb1 := rt.2.2.2.1
  refine lv_iload_n hx hb dX5_typeAt_0 rfl (lv_at hl 1 rfl) ?_
  refine lv_aload_n hx hb dX5_typeAt_1 rfl (lv_at hl 0 rfl) ?_
  refine q_geti (ci := 4) (C := RX5) (T := TX5) (N := 10) hx hb hts (fun w h => List.mem_cons_of_mem _ (mfX50 w h)) hown hK hw m_a0 o_a0 rfl 1 (by decide) (hts _ (List.mem_cons_of_mem _ (mr6 _ (List.mem_of_getElem? (i := 16) rfl)))) (fun _ h => h) rfl dX5_typeAt_2 (fun x_1 lx_1 ux_1 ex_1 => ?_)
  have bx_1 : 0 ≤ x_1 ∧ x_1 ≤ 168 := by rw [ex_1]; exact hg.1 _ m_a0 4 1 o_a0
  have lnx_1 : x_1 = nn := ex_1.trans rt.2.1
  refine q_icmp_lt (tgt := 10) hx hb dX5_typeAt_5 (by decide) ⟨lx1, ux1⟩ ⟨lx_1, ux_1⟩ (fun c5 => ?_) (fun c5 => ?_)
  · refine lv_aload_n hx hb dX5_typeAt_10 rfl (lv_at hl 0 rfl) ?_
    obtain ⟨r_2, er_2, m_r_2, o_r_2⟩ := (show ∃ r, fR f0 a0 0 = some r ∧ r ∈ L0 ∧ ArI f0 r cy.1 168 from hg.2.1 _ m_a0 4 0 o_a0)
    refine q_getr (ci := 4) (C := RX5) (T := TX5) (N := 10) hx hb hts (fun w h => List.mem_cons_of_mem _ (mfX50 w h)) hown hK hw m_a0 o_a0 rfl 0 (by decide) (hts _ (List.mem_cons_of_mem _ (mr6 _ (List.mem_of_getElem? (i := 11) rfl)))) (fun _ h => h) rfl er_2 dX5_typeAt_11 ?_
    have t11 := er_2
    refine lv_iload_n hx hb dX5_typeAt_14 rfl (lv_at hl 1 rfl) ?_
    refine q_chld hx hb hK hw m_r_2 0 o_r_2 rfl ⟨lx1, ux1⟩ (by omega) (by omega) dX5_typeAt_15 (fun x_3 lx_3 ux_3 ex_3 => ?_)
    have t15 := rt.at t11 ex_3 (by omega) (by omega)
    refine lv_istore_n (lv' := [(2, .int (iI x_3)), (0, .ref a0), (1, .int (iI x1))]) hx hb dX5_typeAt_16 rfl hl (by decide) rfl (fun ls hl => ?_)
    refine lv_iload_n hx hb dX5_typeAt_17 rfl (lv_at hl 0 rfl) ?_
    refine q_bipush hx hb dX5_typeAt_18 rfl ?_
    have J31 : ∀ (k31 : x_3 < 97 ∨ 122 < x_3) (H : Heap) (locs : List Loc) (ls : Array Slot) (hw : Wd D A s.heap L0 f0 H locs) (hl : lv_has ls 3 [(2, .int (iI x_3))]), W p l e ({ frames := 0, cells := 0, slots := 0, locals := 0 } : Room) s m ([.ref a0, .int (iI x1)] : List Value).toArray below meth c H locs (0) (0) (MQ below (Qi D (tq cy) L0 f0 s.heap.size (fun (r : Int) (L1 : List Nat) (f1 : Nat → va_E) => L0 = L1 ∧ f0 = f1 ∧ (r = tyA Tt nn x1))) ([.ref a0, .int (iI x1)] : List Value).toArray s 0 0 A) (F0 m 31 ls []) := by
      intro k31 H locs ls hw hl
      refine lv_iload_n hx hb dX5_typeAt_31 rfl (lv_at hl 0 rfl) ?_
      refine q_bipush hx hb dX5_typeAt_32 rfl ?_
      refine q_icmp_lt (tgt := 47) hx hb dX5_typeAt_34 (by decide) ⟨lx_3, ux_3⟩ ⟨by decide, by decide⟩ (fun c34 => ?_) (fun c34 => ?_)
      · refine q_iconst hx hb dX5_typeAt_47 ?_
        exact q_ret_i hx hb hr hlocks hK hAe hw ⟨by decide, by decide⟩ (Nat.le_of_ble_eq_true rfl) (Nat.le_of_ble_eq_true rfl) dX5_typeAt_48 ⟨rfl, rfl, by exact tyA_of (by omega)⟩
      · refine lv_iload_n hx hb dX5_typeAt_37 rfl (lv_at hl 0 rfl) ?_
        refine q_bipush hx hb dX5_typeAt_38 rfl ?_
        refine q_icmp_gt (tgt := 47) hx hb dX5_typeAt_40 (by decide) ⟨lx_3, ux_3⟩ ⟨by decide, by decide⟩ (fun c40 => ?_) (fun c40 => ?_)
        · refine q_iconst hx hb dX5_typeAt_47 ?_
          exact q_ret_i hx hb hr hlocks hK hAe hw ⟨by decide, by decide⟩ (Nat.le_of_ble_eq_true rfl) (Nat.le_of_ble_eq_true rfl) dX5_typeAt_48 ⟨rfl, rfl, by exact tyA_of (by omega)⟩
        · refine q_iconst hx hb dX5_typeAt_43 ?_
          refine lv_goto (tgt := 48) hx hb dX5_typeAt_44 (by decide) ?_
          exact q_ret_i hx hb hr hlocks hK hAe hw ⟨by decide, by decide⟩ (Nat.le_of_ble_eq_true rfl) (Nat.le_of_ble_eq_true rfl) dX5_typeAt_48 ⟨rfl, rfl, by exact tyA_of (by omega)⟩
    refine q_icmp_lt (tgt := 31) hx hb dX5_typeAt_20 (by decide) ⟨lx_3, ux_3⟩ ⟨by decide, by decide⟩ (fun c20 => ?_) (fun c20 => ?_)
    · exact J31 (by omega) _ _ _ hw (lv_sub hl [0] rfl)
    · refine lv_iload_n hx hb dX5_typeAt_23 rfl (lv_at hl 0 rfl) ?_
      refine q_bipush hx hb dX5_typeAt_24 rfl ?_
      refine q_icmp_gt (tgt := 31) hx hb dX5_typeAt_26 (by decide) ⟨lx_3, ux_3⟩ ⟨by decide, by decide⟩ (fun c26 => ?_) (fun c26 => ?_)
      · exact J31 (by omega) _ _ _ hw (lv_sub hl [0] rfl)
      · refine q_iconst hx hb dX5_typeAt_29 ?_
        exact q_ret_i hx hb hr hlocks hK hAe hw ⟨by decide, by decide⟩ (Nat.le_of_ble_eq_true rfl) (Nat.le_of_ble_eq_true rfl) dX5_typeAt_30 ⟨rfl, rfl, by exact tyA_of (by omega)⟩
  · refine q_iconst hx hb dX5_typeAt_8 ?_
    exact q_ret_i hx hb hr hlocks hK hAe hw ⟨by decide, by decide⟩ (Nat.le_of_ble_eq_true rfl) (Nat.le_of_ble_eq_true rfl) dX5_typeAt_9 ⟨rfl, rfl, by exact tyA_of (by omega)⟩
set_option maxHeartbeats 4000000 in
set_option maxRecDepth 100000 in
theorem c_X5_step_p {Z : Zt} (zo : Zok Z) (l : Launch) (D : va_G) (cy : Cy) (L0 : List Nat) (f0 : Nat → va_E) (a0 : Nat) (m_a0 : a0 ∈ L0) (o_a0 : Ob f0 a0 4) (hg : GI cy L0 f0) (Tt : Int → Int) (nn : Int) (tp : Nat) (rt : RT Tt nn f0 a0 tp) (e0 : 0 ≤ fI f0 a0 4) (e1 : fI f0 a0 4 ≤ nn) : Cv Z l yX5_step (Cond.code yX5_step cX5_step 1 none :: TB) ({ frames := 1, cells := 0, slots := 0, locals := 22 } : Room) 0 0 D (tq cy) [.ref a0] L0 f0 (fun (L1 : List Nat) (f1 : Nat → va_E) => L0 = L1 ∧ GI cy L0 f1 ∧ Ex cy f0 f1 ∧ (OA f0 f1 a0 ∧ K5 f0 f1 a0 ∧ RT Tt nn f1 a0 tp ∧ RS Tt nn f1 a0 (fI f0 a0 4))) := by
  refine Cv.enter (cc := cX5_step) (n := 1) rfl (plainFor_of_name (by decide)) (Nat.le_of_ble_eq_true rfl) ?_
  intro p e s m below meth c ls A hx hb hr hts hown hlocks hnm hml hK hA hAe hw hZ hl
  have hown : s.vm.findClass RX5 = some m.cls := hown
  have hl : lv_has ls 1 [(0, .ref a0)] := hl
  have hN : ZN s := (zo.2.2.2.2 _ _ _ hZ).2
  have hE : Ex cy f0 f0 := Ex.refl cy f0
  have nb0 := rt.2.2.1
  have nb1 := rt.2.2.2.1
  have oa := OA.refl f0 a0
  have k5 := K5.refl f0 a0
  have pb := tP_b (T := Tt) e1
  have tb := tyA_b Tt nn (tP Tt nn (fI f0 a0 4))
  refine lv_aload_n hx hb dX5_step_0 rfl (lv_at hl 0 rfl) ?_
  refine lv_aload_n hx hb dX5_step_1 rfl (lv_at hl 0 rfl) ?_
  refine q_geti (ci := 4) (C := RX5) (T := TX5) (N := 10) hx hb hts (fun w h => List.mem_cons_of_mem _ (mfX50 w h)) hown hK hw m_a0 o_a0 rfl 4 (by decide) (hts _ (List.mem_cons_of_mem _ (mr6 _ (List.mem_of_getElem? (i := 5) rfl)))) (fun _ h => h) rfl dX5_step_2 (fun x_1 lx_1 ux_1 ex_1 => ?_)
  have bx_1 : 0 ≤ x_1 ∧ x_1 ≤ 168 := by rw [ex_1]; exact hg.1 _ m_a0 4 4 o_a0
  refine q_puti (ci := 4) (C := RX5) (T := TX5) (N := 10) hx hb hts (fun w h => List.mem_cons_of_mem _ (mfX50 w h)) hown hK hw m_a0 o_a0 rfl 3 (by decide) (hts _ (List.mem_cons_of_mem _ (mr6 _ (List.mem_of_getElem? (i := 4) rfl)))) (fun _ h => h) tyX5 tyX5_ok nmX5 rfl (ty := .int) (by decide +kernel) rfl rfl dX5_step_5 (fun H locs hw => ?_)
  have oo := o_a0
  obtain ⟨f_2, ef_2⟩ : ∃ g : Nat → va_E, g = pU f0 a0 3 (.int (iI x_1)) := ⟨_, rfl⟩
  have hX : Ex cy f0 f_2 := by rw [ef_2]; exact Ex_pU oo rfl rfl (by decide)
  have hg : GI cy L0 f_2 := by rw [ef_2]; exact hg.putI oo rfl ⟨lx_1, ux_1⟩ (by show 0 ≤ x_1 ∧ x_1 ≤ 168; omega)
  rw [← ef_2] at hw
  have hE := hE.trans hX
  have o_a0 := hX.1.1 _ _ o_a0
  have t_a0_2_f_2 : fI f_2 a0 2 = fI f0 a0 2 := by rw [ef_2]; exact fI_pU (Or.inr (by decide))
  have t_a0_4_f_2 : fI f_2 a0 4 = fI f0 a0 4 := by rw [ef_2]; exact fI_pU (Or.inr (by decide))
  have vf_2 : fI f_2 a0 3 = x_1 := by rw [ef_2]; exact fI_pU_self oo rfl ⟨lx_1, ux_1⟩
  have oa := oa.put ef_2
  have k5 := k5.put ef_2 (by decide)
  have rt := rt.put ef_2 (by decide)
  have J8 : ∀ (n8 : Nat) (L : List Nat) (fw8 : Nat → va_E) (hg : GI cy L0 fw8) (hE : Ex cy f0 fw8) (o_a0 : Ob fw8 a0 4) (oa : OA f0 fw8 a0) (k5 : K5 f0 fw8 a0) (rt : RT Tt nn fw8 a0 tp) (b0 : 0 ≤ fI fw8 a0 3) (b1 : fI fw8 a0 3 ≤ nn) (p0 : tP Tt nn (fI f0 a0 4) = tP Tt nn (fI fw8 a0 3)) (hn8 : (200 - fI fw8 a0 3).toNat < n8) (H : Heap) (locs : List Loc) (ls : Array Slot) (hw : Wd D A s.heap L0 fw8 H locs) (hl : lv_has ls 1 [(0, .ref a0)]), W p l e ({ frames := 1, cells := 0, slots := 0, locals := 22 } : Room) s m ([.ref a0] : List Value).toArray below meth c H locs (0) (0) (MQ below (Qv D (tq cy) L0 f0 s.heap.size (fun (L1 : List Nat) (f1 : Nat → va_E) => L0 = L1 ∧ GI cy L0 f1 ∧ Ex cy f0 f1 ∧ (OA f0 f1 a0 ∧ K5 f0 f1 a0 ∧ RT Tt nn f1 a0 tp ∧ RS Tt nn f1 a0 (fI f0 a0 4)))) ([.ref a0] : List Value).toArray s 0 0 A) (F0 m 8 ls []) := by
    intro n8
    induction n8 with
    | zero => intro L fw8 hg hE o_a0 oa k5 rt b0 b1 p0 hn8; exact absurd hn8 (Nat.not_lt_zero _)
    | succ n8 ih8 =>
      intro L fw8 hg hE o_a0 oa k5 rt b0 b1 p0 hn8 H locs ls hw hl
      refine lv_aload_n hx hb dX5_step_8 rfl (lv_at hl 0 rfl) ?_
      refine q_geti (ci := 4) (C := RX5) (T := TX5) (N := 10) hx hb hts (fun w h => List.mem_cons_of_mem _ (mfX50 w h)) hown hK hw m_a0 o_a0 rfl 3 (by decide) (hts _ (List.mem_cons_of_mem _ (mr6 _ (List.mem_of_getElem? (i := 4) rfl)))) (fun _ h => h) rfl dX5_step_9 (fun x_3 lx_3 ux_3 ex_3 => ?_)
      have bx_3 : 0 ≤ x_3 ∧ x_3 ≤ 168 := by rw [ex_3]; exact hg.1 _ m_a0 4 3 o_a0
      refine lv_aload_n hx hb dX5_step_12 rfl (lv_at hl 0 rfl) ?_
      refine q_geti (ci := 4) (C := RX5) (T := TX5) (N := 10) hx hb hts (fun w h => List.mem_cons_of_mem _ (mfX50 w h)) hown hK hw m_a0 o_a0 rfl 1 (by decide) (hts _ (List.mem_cons_of_mem _ (mr6 _ (List.mem_of_getElem? (i := 16) rfl)))) (fun _ h => h) rfl dX5_step_13 (fun x_4 lx_4 ux_4 ex_4 => ?_)
      have bx_4 : 0 ≤ x_4 ∧ x_4 ≤ 168 := by rw [ex_4]; exact hg.1 _ m_a0 4 1 o_a0
      have lnx_4 : x_4 = nn := ex_4.trans rt.2.1
      have J46 : ∀ (pe : fI fw8 a0 3 = tP Tt nn (fI f0 a0 4)) (H : Heap) (locs : List Loc) (ls : Array Slot) (hw : Wd D A s.heap L0 fw8 H locs) (hl : lv_has ls 1 [(0, .ref a0)]), W p l e ({ frames := 1, cells := 0, slots := 0, locals := 22 } : Room) s m ([.ref a0] : List Value).toArray below meth c H locs (0) (0) (MQ below (Qv D (tq cy) L0 f0 s.heap.size (fun (L1 : List Nat) (f1 : Nat → va_E) => L0 = L1 ∧ GI cy L0 f1 ∧ Ex cy f0 f1 ∧ (OA f0 f1 a0 ∧ K5 f0 f1 a0 ∧ RT Tt nn f1 a0 tp ∧ RS Tt nn f1 a0 (fI f0 a0 4)))) ([.ref a0] : List Value).toArray s 0 0 A) (F0 m 46 ls []) := by
        intro pe H locs ls hw hl
        refine lv_aload_n hx hb dX5_step_46 rfl (lv_at hl 0 rfl) ?_
        refine lv_aload_n hx hb dX5_step_47 rfl (lv_at hl 0 rfl) ?_
        refine lv_aload_n hx hb dX5_step_48 rfl (lv_at hl 0 rfl) ?_
        refine q_geti (ci := 4) (C := RX5) (T := TX5) (N := 10) hx hb hts (fun w h => List.mem_cons_of_mem _ (mfX50 w h)) hown hK hw m_a0 o_a0 rfl 3 (by decide) (hts _ (List.mem_cons_of_mem _ (mr6 _ (List.mem_of_getElem? (i := 4) rfl)))) (fun _ h => h) rfl dX5_step_49 (fun x_5 lx_5 ux_5 ex_5 => ?_)
        have bx_5 : 0 ≤ x_5 ∧ x_5 ≤ 168 := by rw [ex_5]; exact hg.1 _ m_a0 4 3 o_a0
        refine q_call_i hA hK hw (va_runV (As := [.int (iI x_5)]) (rest := [.ref a0]) ⟨hx, hb, hml, hown, hts⟩ (c_X5_typeAt_p zo l D cy L0 fw8 a0 x_5 lx_5 ux_5 m_a0 o_a0 hg Tt nn tp rt (by omega) _) (cwV 1 hts (gT (inV (mr7 _ (List.mem_of_getElem? (i := 6) rfl)) (mr7 _ (List.mem_of_getElem? (i := 7) rfl)) (mr7 _ (List.mem_of_getElem? (i := 8) rfl)) (mr5 _ (List.mem_of_getElem? (i := 18) rfl)) (mr7 _ (List.mem_of_getElem? (i := 9) rfl)))) rfl rfl rfl (by decide +kernel) ⟨Nat.le_of_ble_eq_true rfl, Nat.le_of_ble_eq_true rfl⟩) (Wd.preV zo hA hZ hw hK m_a0 o_a0 rfl) rfl rfl hl.1 rfl (lv_room (Nat.le_of_ble_eq_true rfl)) dX5_step_52 ⟨Nat.le_of_ble_eq_true rfl, Nat.le_of_ble_eq_true rfl⟩) (fun x_6 L1 f1 H locs lx_6 ux_6 ex_6 hw => ?_)
        obtain ⟨rfl, rfl, ex_6⟩ := ex_6
        have t52 : x_6 = tyA Tt nn (tP Tt nn (fI f0 a0 4)) := ex_6.trans (by rw [show x_5 = tP Tt nn (fI f0 a0 4) by omega])
        clear ex_6
        refine q_puti (ci := 4) (C := RX5) (T := TX5) (N := 10) hx hb hts (fun w h => List.mem_cons_of_mem _ (mfX50 w h)) hown hK hw m_a0 o_a0 rfl 2 (by decide) (hts _ (List.mem_cons_of_mem _ (mr6 _ (List.mem_of_getElem? (i := 3) rfl)))) (fun _ h => h) tyX5 tyX5_ok nmX5 rfl (ty := .int) (by decide +kernel) rfl rfl dX5_step_55 (fun H locs hw => ?_)
        have oo := o_a0
        obtain ⟨f_7, ef_7⟩ : ∃ g : Nat → va_E, g = pU fw8 a0 2 (.int (iI x_6)) := ⟨_, rfl⟩
        have hX : Ex cy fw8 f_7 := by rw [ef_7]; exact Ex_pU oo rfl rfl (by decide)
        have hg : GI cy L0 f_7 := by rw [ef_7]; exact hg.putI oo rfl ⟨lx_6, ux_6⟩ trivial
        rw [← ef_7] at hw
        have hE := hE.trans hX
        have o_a0 := hX.1.1 _ _ o_a0
        have t_a0_3_f_7 : fI f_7 a0 3 = fI fw8 a0 3 := by rw [ef_7]; exact fI_pU (Or.inr (by decide))
        have t_a0_4_f_7 : fI f_7 a0 4 = fI fw8 a0 4 := by rw [ef_7]; exact fI_pU (Or.inr (by decide))
        have vf_7 : fI f_7 a0 2 = x_6 := by rw [ef_7]; exact fI_pU_self oo rfl ⟨lx_6, ux_6⟩
        have oa := oa.put ef_7
        have k5 := k5.put ef_7 (by decide)
        have rt := rt.put ef_7 (by decide)
        refine lv_aload_n hx hb dX5_step_58 rfl (lv_at hl 0 rfl) ?_
        refine lv_aload_n hx hb dX5_step_59 rfl (lv_at hl 0 rfl) ?_
        refine q_geti (ci := 4) (C := RX5) (T := TX5) (N := 10) hx hb hts (fun w h => List.mem_cons_of_mem _ (mfX50 w h)) hown hK hw m_a0 o_a0 rfl 3 (by decide) (hts _ (List.mem_cons_of_mem _ (mr6 _ (List.mem_of_getElem? (i := 4) rfl)))) (fun _ h => h) rfl dX5_step_60 (fun x_8 lx_8 ux_8 ex_8 => ?_)
        have bx_8 : 0 ≤ x_8 ∧ x_8 ≤ 168 := by rw [ex_8]; exact hg.1 _ m_a0 4 3 o_a0
        refine q_puti (ci := 4) (C := RX5) (T := TX5) (N := 10) hx hb hts (fun w h => List.mem_cons_of_mem _ (mfX50 w h)) hown hK hw m_a0 o_a0 rfl 4 (by decide) (hts _ (List.mem_cons_of_mem _ (mr6 _ (List.mem_of_getElem? (i := 5) rfl)))) (fun _ h => h) tyX5 tyX5_ok nmX5 rfl (ty := .int) (by decide +kernel) rfl rfl dX5_step_63 (fun H locs hw => ?_)
        have oo := o_a0
        obtain ⟨f_9, ef_9⟩ : ∃ g : Nat → va_E, g = pU f_7 a0 4 (.int (iI x_8)) := ⟨_, rfl⟩
        have hX : Ex cy f_7 f_9 := by rw [ef_9]; exact Ex_pU oo rfl rfl (by decide)
        have hg : GI cy L0 f_9 := by rw [ef_9]; exact hg.putI oo rfl ⟨lx_8, ux_8⟩ (by show 0 ≤ x_8 ∧ x_8 ≤ 168; omega)
        rw [← ef_9] at hw
        have hE := hE.trans hX
        have o_a0 := hX.1.1 _ _ o_a0
        have t_a0_2_f_9 : fI f_9 a0 2 = fI f_7 a0 2 := by rw [ef_9]; exact fI_pU (Or.inr (by decide))
        have t_a0_3_f_9 : fI f_9 a0 3 = fI f_7 a0 3 := by rw [ef_9]; exact fI_pU (Or.inr (by decide))
        have vf_9 : fI f_9 a0 4 = x_8 := by rw [ef_9]; exact fI_pU_self oo rfl ⟨lx_8, ux_8⟩
        have oa := oa.put ef_9
        have k5 := k5.put ef_9 (by decide)
        have rt := rt.put ef_9 (by decide)
        have J66 : ∀ (n66 : Nat) (L : List Nat) (fw66 : Nat → va_E) (hg : GI cy L0 fw66) (hE : Ex cy f0 fw66) (o_a0 : Ob fw66 a0 4) (oa : OA f0 fw66 a0) (k5 : K5 f0 fw66 a0) (rt : RT Tt nn fw66 a0 tp) (b2 : fI fw66 a0 4 ≤ nn) (b3 : tP Tt nn (fI f0 a0 4) ≤ fI fw66 a0 4) (y2 : fI fw66 a0 2 = tyA Tt nn (tP Tt nn (fI f0 a0 4))) (y3 : fI fw66 a0 3 = tP Tt nn (fI f0 a0 4)) (q3 : tyA Tt nn (tP Tt nn (fI f0 a0 4)) = 3 → fI fw66 a0 4 = tP Tt nn (fI f0 a0 4)) (qr : tyA Tt nn (tP Tt nn (fI f0 a0 4)) ≠ 3 → tQ Tt nn (fI f0 a0 4) = rn Tt nn (tyA Tt nn (tP Tt nn (fI f0 a0 4))) (fI fw66 a0 4)) (hn66 : (200 - fI fw66 a0 4).toNat < n66) (H : Heap) (locs : List Loc) (ls : Array Slot) (hw : Wd D A s.heap L0 fw66 H locs) (hl : lv_has ls 1 [(0, .ref a0)]), W p l e ({ frames := 1, cells := 0, slots := 0, locals := 22 } : Room) s m ([.ref a0] : List Value).toArray below meth c H locs (0 + 0) (0 + 0) (MQ below (Qv D (tq cy) L0 f0 s.heap.size (fun (L1 : List Nat) (f1 : Nat → va_E) => L0 = L1 ∧ GI cy L0 f1 ∧ Ex cy f0 f1 ∧ (OA f0 f1 a0 ∧ K5 f0 f1 a0 ∧ RT Tt nn f1 a0 tp ∧ RS Tt nn f1 a0 (fI f0 a0 4)))) ([.ref a0] : List Value).toArray s 0 0 A) (F0 m 66 ls []) := by
          intro n66
          induction n66 with
          | zero => intro L fw66 hg hE o_a0 oa k5 rt b2 b3 y2 y3 q3 qr hn66; exact absurd hn66 (Nat.not_lt_zero _)
          | succ n66 ih66 =>
            intro L fw66 hg hE o_a0 oa k5 rt b2 b3 y2 y3 q3 qr hn66 H locs ls hw hl
            refine lv_aload_n hx hb dX5_step_66 rfl (lv_at hl 0 rfl) ?_
            refine q_geti (ci := 4) (C := RX5) (T := TX5) (N := 10) hx hb hts (fun w h => List.mem_cons_of_mem _ (mfX50 w h)) hown hK hw m_a0 o_a0 rfl 4 (by decide) (hts _ (List.mem_cons_of_mem _ (mr6 _ (List.mem_of_getElem? (i := 5) rfl)))) (fun _ h => h) rfl dX5_step_67 (fun x_10 lx_10 ux_10 ex_10 => ?_)
            have bx_10 : 0 ≤ x_10 ∧ x_10 ≤ 168 := by rw [ex_10]; exact hg.1 _ m_a0 4 4 o_a0
            refine lv_aload_n hx hb dX5_step_70 rfl (lv_at hl 0 rfl) ?_
            refine q_geti (ci := 4) (C := RX5) (T := TX5) (N := 10) hx hb hts (fun w h => List.mem_cons_of_mem _ (mfX50 w h)) hown hK hw m_a0 o_a0 rfl 1 (by decide) (hts _ (List.mem_cons_of_mem _ (mr6 _ (List.mem_of_getElem? (i := 16) rfl)))) (fun _ h => h) rfl dX5_step_71 (fun x_11 lx_11 ux_11 ex_11 => ?_)
            have bx_11 : 0 ≤ x_11 ∧ x_11 ≤ 168 := by rw [ex_11]; exact hg.1 _ m_a0 4 1 o_a0
            have lnx_11 : x_11 = nn := ex_11.trans rt.2.1
            refine q_icmp_ge (tgt := 113) hx hb dX5_step_74 (by decide) ⟨lx_10, ux_10⟩ ⟨lx_11, ux_11⟩ (fun c74 => ?_) (fun c74 => ?_)
            · exact q_ret_v hx hb hr hlocks hK hAe hw (Nat.le_of_ble_eq_true rfl) (Nat.le_of_ble_eq_true rfl) dX5_step_113 (by exact ⟨rfl, hg, hE, oa, k5, rt, y2, y3, tQ_ex q3 qr (by first | exact Or.inl (by omega) | exact Or.inr (Or.inl (by omega)) | exact Or.inr (Or.inr (fun q => by omega)))⟩)
            · refine lv_aload_n hx hb dX5_step_77 rfl (lv_at hl 0 rfl) ?_
              refine q_geti (ci := 4) (C := RX5) (T := TX5) (N := 10) hx hb hts (fun w h => List.mem_cons_of_mem _ (mfX50 w h)) hown hK hw m_a0 o_a0 rfl 2 (by decide) (hts _ (List.mem_cons_of_mem _ (mr6 _ (List.mem_of_getElem? (i := 3) rfl)))) (fun _ h => h) rfl dX5_step_78 (fun x_12 lx_12 ux_12 ex_12 => ?_)
              refine q_iconst hx hb dX5_step_81 ?_
              refine q_icmp_eq (tgt := 113) hx hb dX5_step_82 (by decide) ⟨lx_12, ux_12⟩ ⟨by decide, by decide⟩ (fun c82 => ?_) (fun c82 => ?_)
              · exact q_ret_v hx hb hr hlocks hK hAe hw (Nat.le_of_ble_eq_true rfl) (Nat.le_of_ble_eq_true rfl) dX5_step_113 (by exact ⟨rfl, hg, hE, oa, k5, rt, y2, y3, tQ_ex q3 qr (by first | exact Or.inl (by omega) | exact Or.inr (Or.inl (by omega)) | exact Or.inr (Or.inr (fun q => by omega)))⟩)
              · refine lv_aload_n hx hb dX5_step_85 rfl (lv_at hl 0 rfl) ?_
                refine lv_aload_n hx hb dX5_step_86 rfl (lv_at hl 0 rfl) ?_
                refine q_geti (ci := 4) (C := RX5) (T := TX5) (N := 10) hx hb hts (fun w h => List.mem_cons_of_mem _ (mfX50 w h)) hown hK hw m_a0 o_a0 rfl 4 (by decide) (hts _ (List.mem_cons_of_mem _ (mr6 _ (List.mem_of_getElem? (i := 5) rfl)))) (fun _ h => h) rfl dX5_step_87 (fun x_13 lx_13 ux_13 ex_13 => ?_)
                have bx_13 : 0 ≤ x_13 ∧ x_13 ≤ 168 := by rw [ex_13]; exact hg.1 _ m_a0 4 4 o_a0
                refine q_call_i hA hK hw (va_runV (As := [.int (iI x_13)]) (rest := []) ⟨hx, hb, hml, hown, hts⟩ (c_X5_typeAt_p zo l D cy L0 fw66 a0 x_13 lx_13 ux_13 m_a0 o_a0 hg Tt nn tp rt (by omega) _) (cwV 1 hts (gT (inV (mr7 _ (List.mem_of_getElem? (i := 6) rfl)) (mr7 _ (List.mem_of_getElem? (i := 7) rfl)) (mr7 _ (List.mem_of_getElem? (i := 8) rfl)) (mr5 _ (List.mem_of_getElem? (i := 18) rfl)) (mr7 _ (List.mem_of_getElem? (i := 9) rfl)))) rfl rfl rfl (by decide +kernel) ⟨Nat.le_of_ble_eq_true rfl, Nat.le_of_ble_eq_true rfl⟩) (Wd.preV zo hA hZ hw hK m_a0 o_a0 rfl) rfl rfl hl.1 rfl (lv_room (Nat.le_of_ble_eq_true rfl)) dX5_step_90 ⟨Nat.le_of_ble_eq_true rfl, Nat.le_of_ble_eq_true rfl⟩) (fun x_14 L1 f1 H locs lx_14 ux_14 ex_14 hw => ?_)
                obtain ⟨rfl, rfl, ex_14⟩ := ex_14
                have t90 : x_14 = tyA Tt nn (fI fw66 a0 4) := ex_14.trans (by rw [show x_13 = fI fw66 a0 4 by omega])
                clear ex_14
                refine lv_aload_n hx hb dX5_step_93 rfl (lv_at hl 0 rfl) ?_
                refine q_geti (ci := 4) (C := RX5) (T := TX5) (N := 10) hx hb hts (fun w h => List.mem_cons_of_mem _ (mfX50 w h)) hown hK hw m_a0 o_a0 rfl 2 (by decide) (hts _ (List.mem_cons_of_mem _ (mr6 _ (List.mem_of_getElem? (i := 3) rfl)))) (fun _ h => h) rfl dX5_step_94 (fun x_15 lx_15 ux_15 ex_15 => ?_)
                refine q_icmp_ne (tgt := 113) hx hb dX5_step_97 (by decide) ⟨lx_14, ux_14⟩ ⟨lx_15, ux_15⟩ (fun c97 => ?_) (fun c97 => ?_)
                · exact q_ret_v hx hb hr hlocks hK hAe hw (Nat.le_of_ble_eq_true rfl) (Nat.le_of_ble_eq_true rfl) dX5_step_113 (by exact ⟨rfl, hg, hE, oa, k5, rt, y2, y3, tQ_ex q3 qr (by first | exact Or.inl (by omega) | exact Or.inr (Or.inl (by omega)) | exact Or.inr (Or.inr (fun q => by omega)))⟩)
                · refine lv_aload_n hx hb dX5_step_100 rfl (lv_at hl 0 rfl) ?_
                  refine lv_dup hx hb dX5_step_101 rfl ?_
                  refine q_geti (ci := 4) (C := RX5) (T := TX5) (N := 10) hx hb hts (fun w h => List.mem_cons_of_mem _ (mfX50 w h)) hown hK hw m_a0 o_a0 rfl 4 (by decide) (hts _ (List.mem_cons_of_mem _ (mr6 _ (List.mem_of_getElem? (i := 5) rfl)))) (fun _ h => h) rfl dX5_step_102 (fun x_16 lx_16 ux_16 ex_16 => ?_)
                  have bx_16 : 0 ≤ x_16 ∧ x_16 ≤ 168 := by rw [ex_16]; exact hg.1 _ m_a0 4 4 o_a0
                  refine q_iconst hx hb dX5_step_105 ?_
                  first | refine q_iadd hx hb dX5_step_106 ⟨by omega, by omega⟩ (fun x_17 lx_17 ux_17 ex_17 => ?_) | refine q_iaddw hx hb dX5_step_106 (fun x_17 lx_17 ux_17 _ => ?_)
                  refine q_puti (ci := 4) (C := RX5) (T := TX5) (N := 10) hx hb hts (fun w h => List.mem_cons_of_mem _ (mfX50 w h)) hown hK hw m_a0 o_a0 rfl 4 (by decide) (hts _ (List.mem_cons_of_mem _ (mr6 _ (List.mem_of_getElem? (i := 5) rfl)))) (fun _ h => h) tyX5 tyX5_ok nmX5 rfl (ty := .int) (by decide +kernel) rfl rfl dX5_step_107 (fun H locs hw => ?_)
                  have oo := o_a0
                  obtain ⟨f_18, ef_18⟩ : ∃ g : Nat → va_E, g = pU fw66 a0 4 (.int (iI x_17)) := ⟨_, rfl⟩
                  have hX : Ex cy fw66 f_18 := by rw [ef_18]; exact Ex_pU oo rfl rfl (by decide)
                  have hg : GI cy L0 f_18 := by rw [ef_18]; exact hg.putI oo rfl ⟨lx_17, ux_17⟩ (by show 0 ≤ x_17 ∧ x_17 ≤ 168; omega)
                  rw [← ef_18] at hw
                  have hE := hE.trans hX
                  have o_a0 := hX.1.1 _ _ o_a0
                  have t_a0_2_f_18 : fI f_18 a0 2 = fI fw66 a0 2 := by rw [ef_18]; exact fI_pU (Or.inr (by decide))
                  have t_a0_3_f_18 : fI f_18 a0 3 = fI fw66 a0 3 := by rw [ef_18]; exact fI_pU (Or.inr (by decide))
                  have vf_18 : fI f_18 a0 4 = x_17 := by rw [ef_18]; exact fI_pU_self oo rfl ⟨lx_17, ux_17⟩
                  have oa := oa.put ef_18
                  have k5 := k5.put ef_18 (by decide)
                  have rt := rt.put ef_18 (by decide)
                  refine lv_goto (tgt := 66) hx hb dX5_step_110 (by decide) ?_
                  exact ih66 L0 f_18 hg hE o_a0 (by exact oa) (by exact k5) (by exact rt) (by omega) (by omega) (by omega) (by omega) (by omega) (by first | exact fun h => (tQ_r h).trans (congrArg (rn Tt nn _) (by omega)) | exact fun h => rn_st (qr h) (by omega) (t90.symm.trans (by omega)) (by omega)) (by omega) _ _ _ hw (lv_sub hl [0] rfl)
        exact J66 (((200 - fI f_9 a0 4).toNat) + 1) L0 f_9 hg hE o_a0 (by exact oa) (by exact k5) (by exact rt) (by omega) (by omega) (by omega) (by omega) (by omega) (by first | exact fun h => (tQ_r h).trans (congrArg (rn Tt nn _) (by omega)) | exact fun h => rn_st (qr h) (by omega) (t90.symm.trans (by omega)) (by omega)) (by omega) _ _ _ hw (lv_sub hl [0] rfl)
      refine q_icmp_ge (tgt := 46) hx hb dX5_step_16 (by decide) ⟨lx_3, ux_3⟩ ⟨lx_4, ux_4⟩ (fun c16 => ?_) (fun c16 => ?_)
      · exact J46 (by first | exact tP_of p0 (Or.inl (by omega)) | exact tP_of p0 (Or.inr (fun q => by have := tsub' t27 q (by omega); omega))) _ _ _ hw (lv_sub hl [0] rfl)
      · refine lv_aload_n hx hb dX5_step_19 rfl (lv_at hl 0 rfl) ?_
        obtain ⟨r_19, er_19, m_r_19, o_r_19⟩ := (show ∃ r, fR fw8 a0 0 = some r ∧ r ∈ L0 ∧ ArI fw8 r cy.1 168 from hg.2.1 _ m_a0 4 0 o_a0)
        refine q_getr (ci := 4) (C := RX5) (T := TX5) (N := 10) hx hb hts (fun w h => List.mem_cons_of_mem _ (mfX50 w h)) hown hK hw m_a0 o_a0 rfl 0 (by decide) (hts _ (List.mem_cons_of_mem _ (mr6 _ (List.mem_of_getElem? (i := 11) rfl)))) (fun _ h => h) rfl er_19 dX5_step_20 ?_
        have t20 := er_19
        refine lv_aload_n hx hb dX5_step_23 rfl (lv_at hl 0 rfl) ?_
        refine q_geti (ci := 4) (C := RX5) (T := TX5) (N := 10) hx hb hts (fun w h => List.mem_cons_of_mem _ (mfX50 w h)) hown hK hw m_a0 o_a0 rfl 3 (by decide) (hts _ (List.mem_cons_of_mem _ (mr6 _ (List.mem_of_getElem? (i := 4) rfl)))) (fun _ h => h) rfl dX5_step_24 (fun x_20 lx_20 ux_20 ex_20 => ?_)
        have bx_20 : 0 ≤ x_20 ∧ x_20 ≤ 168 := by rw [ex_20]; exact hg.1 _ m_a0 4 3 o_a0
        refine q_chld hx hb hK hw m_r_19 0 o_r_19 rfl ⟨lx_20, ux_20⟩ (by omega) (by omega) dX5_step_27 (fun x_21 lx_21 ux_21 ex_21 => ?_)
        have t27 := rt.at t20 ex_21 (by omega) (by omega)
        refine q_bipush hx hb dX5_step_28 rfl ?_
        refine q_icmp_ne (tgt := 46) hx hb dX5_step_30 (by decide) ⟨lx_21, ux_21⟩ ⟨by decide, by decide⟩ (fun c30 => ?_) (fun c30 => ?_)
        · exact J46 (by first | exact tP_of p0 (Or.inl (by omega)) | exact tP_of p0 (Or.inr (fun q => by have := tsub' t27 q (by omega); omega))) _ _ _ hw (lv_sub hl [0] rfl)
        · refine lv_aload_n hx hb dX5_step_33 rfl (lv_at hl 0 rfl) ?_
          refine lv_dup hx hb dX5_step_34 rfl ?_
          refine q_geti (ci := 4) (C := RX5) (T := TX5) (N := 10) hx hb hts (fun w h => List.mem_cons_of_mem _ (mfX50 w h)) hown hK hw m_a0 o_a0 rfl 3 (by decide) (hts _ (List.mem_cons_of_mem _ (mr6 _ (List.mem_of_getElem? (i := 4) rfl)))) (fun _ h => h) rfl dX5_step_35 (fun x_22 lx_22 ux_22 ex_22 => ?_)
          have bx_22 : 0 ≤ x_22 ∧ x_22 ≤ 168 := by rw [ex_22]; exact hg.1 _ m_a0 4 3 o_a0
          refine q_iconst hx hb dX5_step_38 ?_
          first | refine q_iadd hx hb dX5_step_39 ⟨by omega, by omega⟩ (fun x_23 lx_23 ux_23 ex_23 => ?_) | refine q_iaddw hx hb dX5_step_39 (fun x_23 lx_23 ux_23 _ => ?_)
          refine q_puti (ci := 4) (C := RX5) (T := TX5) (N := 10) hx hb hts (fun w h => List.mem_cons_of_mem _ (mfX50 w h)) hown hK hw m_a0 o_a0 rfl 3 (by decide) (hts _ (List.mem_cons_of_mem _ (mr6 _ (List.mem_of_getElem? (i := 4) rfl)))) (fun _ h => h) tyX5 tyX5_ok nmX5 rfl (ty := .int) (by decide +kernel) rfl rfl dX5_step_40 (fun H locs hw => ?_)
          have oo := o_a0
          obtain ⟨f_24, ef_24⟩ : ∃ g : Nat → va_E, g = pU fw8 a0 3 (.int (iI x_23)) := ⟨_, rfl⟩
          have hX : Ex cy fw8 f_24 := by rw [ef_24]; exact Ex_pU oo rfl rfl (by decide)
          have hg : GI cy L0 f_24 := by rw [ef_24]; exact hg.putI oo rfl ⟨lx_23, ux_23⟩ (by show 0 ≤ x_23 ∧ x_23 ≤ 168; omega)
          rw [← ef_24] at hw
          have hE := hE.trans hX
          have o_a0 := hX.1.1 _ _ o_a0
          have t_a0_2_f_24 : fI f_24 a0 2 = fI fw8 a0 2 := by rw [ef_24]; exact fI_pU (Or.inr (by decide))
          have t_a0_4_f_24 : fI f_24 a0 4 = fI fw8 a0 4 := by rw [ef_24]; exact fI_pU (Or.inr (by decide))
          have vf_24 : fI f_24 a0 3 = x_23 := by rw [ef_24]; exact fI_pU_self oo rfl ⟨lx_23, ux_23⟩
          have oa := oa.put ef_24
          have k5 := k5.put ef_24 (by decide)
          have rt := rt.put ef_24 (by decide)
          refine lv_goto (tgt := 8) hx hb dX5_step_43 (by decide) ?_
          exact ih8 L0 f_24 hg hE o_a0 (by exact oa) (by exact k5) (by exact rt) (by omega) (by omega) (by first | exact (congrArg (tP Tt nn) (show _ = fI f_24 a0 3 by omega)) | exact tP_st p0 (by omega) (tsub t27 (by omega)) (by omega)) (by omega) _ _ _ hw (lv_sub hl [0] rfl)
  exact J8 (((200 - fI f_2 a0 3).toNat) + 1) L0 f_2 hg hE o_a0 (by exact oa) (by exact k5) (by exact rt) (by omega) (by omega) (by first | exact (congrArg (tP Tt nn) (show _ = fI f_2 a0 3 by omega)) | exact tP_st p0 (by omega) (tsub t27 (by omega)) (by omega)) (by omega) _ _ _ hw (lv_sub hl [0] rfl)
/-! ===== words of the text ===== -/
def SHr (T : Int → Int) (b : List Int32) (p q x : Int) : Prop := ∀ i : Int, p ≤ i → i < q → x + i - p < (b.length : Int) ∧ T i = (b.getD (x + i - p).toNat 0).toInt
theorem sh_go {T : Int → Int} {b : List Int32} {p x i i' : Int} (h : SHr T b p i x) (h1 : x + i - p < (b.length : Int)) (h2 : T i = (b.getD (x + i - p).toNat 0).toInt) (e : i' = i + 1) : SHr T b p i' x := by
  intro k k0 k1
  by_cases c : k = i
  · rw [c]; exact ⟨h1, h2⟩
  · exact h k k0 (by omega)
theorem isW_of {T : Int → Int} {n e : Int} {b : List Int32} (h1 : tyA T n (tP T n e) = 1) (h2 : tQ T n e - tP T n e = (b.length : Int)) (h3 : SHr T b (tP T n e) (tQ T n e) 0) : isW T n e b := by
  refine ⟨h1, h2, fun i i0 i1 => ?_⟩
  have := (h3 (tP T n e + i) (by omega) (by omega)).2
  rw [show 0 + (tP T n e + i) - tP T n e = i by omega] at this
  exact this
theorem isW.sh {T : Int → Int} {n e : Int} {b : List Int32} (h : isW T n e b) : SHr T b (tP T n e) (tQ T n e) 0 := by
  intro i i0 i1
  have h2 := h.2.1
  have := h.2.2 (i - tP T n e) (by omega) (by omega)
  rw [show tP T n e + (i - tP T n e) = i by omega] at this
  rw [show 0 + i - tP T n e = i - tP T n e by omega]
  exact ⟨by omega, this⟩
def WK : List Int32 := [109, 111, 110, 116, 117, 101, 119, 101, 100, 116, 104, 117, 102, 114, 105, 115, 97, 116, 115, 117, 110]
def wdB (i : Int) : List Int32 := (WK.drop (3 * i).toNat).take 3
theorem wdB_len : ∀ i : Nat, i < 7 → (wdB (i : Int)).length = 3 := by decide
theorem wdB_at : ∀ i : Nat, i < 7 → ∀ k : Nat, k < 3 → (wdB (i : Int)).getD k 0 = WK.getD (3 * i + k) 0 := by decide
theorem wdB_l {i : Int} (h0 : 0 ≤ i) (h1 : i ≤ 6) : (wdB i).length = 3 := by
  have := wdB_len i.toNat (by omega)
  rw [show ((i.toNat : Nat) : Int) = i by omega] at this
  exact this
theorem sh_wd {T : Int → Int} {n e i : Int} (h0 : 0 ≤ i) (h1 : i ≤ 6) (ht : tyA T n (tP T n e) = 1) (hq : tQ T n e - tP T n e = 3) : SHr T WK (tP T n e) (tQ T n e) (3 * i) ↔ isW T n e (wdB i) := by
  have l := wdB_l h0 h1
  have at' : ∀ k : Int, 0 ≤ k → k < 3 → (wdB i).getD k.toNat 0 = WK.getD (3 * i + k).toNat 0 := by
    intro k k0 k1
    have := wdB_at i.toNat (by omega) k.toNat (by omega)
    rw [show ((i.toNat : Nat) : Int) = i by omega] at this
    rw [this, show (3 * i + k).toNat = 3 * i.toNat + k.toNat by omega]
  constructor
  · intro h
    refine ⟨ht, by rw [l]; omega, fun k k0 k1 => ?_⟩
    rw [l] at k1
    have := (h (tP T n e + k) (by omega) (by omega)).2
    rw [show 3 * i + (tP T n e + k) - tP T n e = 3 * i + k by omega] at this
    rw [at' k k0 (by omega)]
    exact this
  · intro h k k0 k1
    have := h.2.2 (k - tP T n e) (by omega) (by rw [l]; omega)
    rw [show tP T n e + (k - tP T n e) = k by omega, at' _ (by omega) (by omega)] at this
    rw [show 3 * i + k - tP T n e = 3 * i + (k - tP T n e) by omega]
    exact ⟨by show _ < ((21 : Nat) : Int); omega, this⟩
/-- which weekday is told; -1: none -/
def WD (T : Int → Int) (n e r : Int) : Prop := (0 ≤ r ∧ r ≤ 6 ∧ isW T n e (wdB r)) ∨ (r = -1 ∧ ∀ i : Int, 0 ≤ i → i ≤ 6 → ¬ isW T n e (wdB i))
theorem WD.no {T : Int → Int} {n e : Int} (h : tyA T n (tP T n e) ≠ 1 ∨ tQ T n e - tP T n e ≠ 3) : WD T n e (-1) := by
  refine Or.inr ⟨rfl, fun i i0 i1 z => ?_⟩
  rcases h with h | h
  · exact h z.1
  · exact h (by have := z.2.1; rw [wdB_l i0 i1] at this; exact this)
/-- numbers -/
def okN (T : Int → Int) (n e : Int) : Prop := tyA T n (tP T n e) = 2 ∧ tQ T n e - tP T n e ≤ 4
def vN (T : Int → Int) (n e : Int) : Int := nv T (tP T n e) (tQ T n e)
/-- digits so far -/
def DG (v k : Int) : Prop := 0 ≤ v ∧ (k = 0 → v = 0) ∧ (k = 1 → v ≤ 9) ∧ (k = 2 → v ≤ 99) ∧ (k = 3 → v ≤ 999) ∧ (k = 4 → v ≤ 9999)
theorem dig {T : Int → Int} {n e : Int} (h : e ≤ n) (ht : tyA T n (tP T n e) = 2) {i : Int} (i0 : tP T n e ≤ i) (i1 : i < tQ T n e) : 48 ≤ T i ∧ T i ≤ 57 := (tyA_2 ((tQ_all h i i0 i1).trans ht)).2
theorem sh_eq {T : Int → Int} {b : List Int32} {x y i k k' : Int} (h : x = T i) (g : y = (b.getD k.toNat 0).toInt) (c : x = y) (e : k = k') : T i = (b.getD k'.toNat 0).toInt := by rw [← h, c, g, e]
theorem sh_ne {T : Int → Int} {b : List Int32} {x y i k k' : Int} (h : x = T i) (g : y = (b.getD k.toNat 0).toInt) (z : T i = (b.getD k'.toNat 0).toInt) (e : k = k') : x = y := by rw [h, z, g, e]
theorem nv_st {T : Int → Int} {p q q' v v' x : Int} (h : v = nv T p q) (pq : p ≤ q) (hx : x = T q) (e : q' = q + 1) (ev : v' = 10 * v + x - 48) : v' = nv T p q' := by rw [nv_go pq e, ← h, ← hx]; exact ev
set_option maxHeartbeats 4000000 in
set_option maxRecDepth 100000 in
theorem c_X5_standsHere_p {Z : Zt} (zo : Zok Z) (l : Launch) (D : va_G) (cy : Cy) (L0 : List Nat) (f0 : Nat → va_E) (a0 : Nat) (a1 : Nat) (x2 : Int) (lx2 : -2147483648 ≤ x2) (ux2 : x2 ≤ 2147483647) (m_a0 : a0 ∈ L0) (o_a0 : Ob f0 a0 4) (b_a1 : List Int32) (v_a1 : Nat) (nb_a1 : Asc b_a1) (tx_a1 : ∀ (A : Nat → Prop) (U : State) (H : Heap), Z A U H → Tx b_a1 a1 v_a1 A U H) (hg : GI cy L0 f0) (Tt : Int → Int) (nn : Int) (tp : Nat) (rt : RT Tt nn f0 a0 tp) (h0 : 0 ≤ x2) (h1 : x2 ≤ 100) (p0 : 0 ≤ fI f0 a0 3) (p1 : fI f0 a0 4 ≤ 168) : Ci Z l yX5_standsHere (Cond.code yX5_standsHere cX5_standsHere 5 (some .boolean) :: TB) ({ frames := 4, cells := 0, slots := 0, locals := 85 } : Room) 0 0 D (tq cy) [.ref a0, .ref a1, .int (iI x2)] L0 f0 (fun (r : Int) (L1 : List Nat) (f1 : Nat → va_E) => L0 = L1 ∧ f0 = f1 ∧ ((r = 1 ∧ SHr Tt b_a1 (fI f0 a0 3) (fI f0 a0 4) x2) ∨ (r = 0 ∧ ¬ SHr Tt b_a1 (fI f0 a0 3) (fI f0 a0 4) x2))) := by
  refine Ci.enter (cc := cX5_standsHere) (n := 5) rfl (plainFor_of_name (by decide)) (Nat.le_of_ble_eq_true rfl) ?_
  intro p e s m below meth c ls A hx hb hr hts hown hlocks hnm hml hK hA hAe hw hZ hl
  have hown : s.vm.findClass RX5 = some m.cls := hown
  have hl : lv_has ls 5 [(0, .ref a0), (1, .ref a1), (2, .int (iI x2))] := hl
  have hN : ZN s := (zo.2.2.2.2 _ _ _ hZ).2
  have nb0 := rt.2.2.1
  have nb1 := rt.2.2.2.1
  refine lv_aload_n hx hb dX5_standsHere_0 rfl (lv_at hl 0 rfl) ?_
  refine q_geti (ci := 4) (C := RX5) (T := TX5) (N := 10) hx hb hts (fun w h => List.mem_cons_of_mem _ (mfX50 w h)) hown hK hw m_a0 o_a0 rfl 3 (by decide) (hts _ (List.mem_cons_of_mem _ (mr6 _ (List.mem_of_getElem? (i := 4) rfl)))) (fun _ h => h) rfl dX5_standsHere_1 (fun x_1 lx_1 ux_1 ex_1 => ?_)
  have bx_1 : 0 ≤ x_1 ∧ x_1 ≤ 168 := by rw [ex_1]; exact hg.1 _ m_a0 4 3 o_a0
  refine lv_istore_n (lv' := [(3, .int (iI x_1)), (0, .ref a0), (1, .ref a1), (2, .int (iI x2))]) hx hb dX5_standsHere_4 rfl hl (by decide) rfl (fun ls hl => ?_)
  have J5 : ∀ (n5 : Nat) (y3_5 : Int) (ly3_5 : -2147483648 ≤ y3_5) (uy3_5 : y3_5 ≤ 2147483647) (i1 : fI f0 a0 3 ≤ y3_5) (i2 : SHr Tt b_a1 (fI f0 a0 3) y3_5 x2) (hn5 : ((2147483647 : Int) - y3_5).toNat < n5) (H : Heap) (locs : List Loc) (ls : Array Slot) (hw : Wd D A s.heap L0 f0 H locs) (hl : lv_has ls 5 [(0, .ref a0), (1, .ref a1), (2, .int (iI x2)), (3, .int (iI y3_5))]), W p l e ({ frames := 4, cells := 0, slots := 0, locals := 85 } : Room) s m ([.ref a0, .ref a1, .int (iI x2)] : List Value).toArray below meth c H locs (0) (0) (MQ below (Qi D (tq cy) L0 f0 s.heap.size (fun (r : Int) (L1 : List Nat) (f1 : Nat → va_E) => L0 = L1 ∧ f0 = f1 ∧ ((r = 1 ∧ SHr Tt b_a1 (fI f0 a0 3) (fI f0 a0 4) x2) ∨ (r = 0 ∧ ¬ SHr Tt b_a1 (fI f0 a0 3) (fI f0 a0 4) x2)))) ([.ref a0, .ref a1, .int (iI x2)] : List Value).toArray s 0 0 A) (F0 m 5 ls []) := by
    intro n5
    induction n5 with
    | zero => intro y3_5 ly3_5 uy3_5 i1 i2 hn5; exact absurd hn5 (Nat.not_lt_zero _)
    | succ n5 ih5 =>
      intro y3_5 ly3_5 uy3_5 i1 i2 hn5 H locs ls hw hl
      refine lv_iload_n hx hb dX5_standsHere_5 rfl (lv_at hl 3 rfl) ?_
      refine lv_aload_n hx hb dX5_standsHere_6 rfl (lv_at hl 0 rfl) ?_
      refine q_geti (ci := 4) (C := RX5) (T := TX5) (N := 10) hx hb hts (fun w h => List.mem_cons_of_mem _ (mfX50 w h)) hown hK hw m_a0 o_a0 rfl 4 (by decide) (hts _ (List.mem_cons_of_mem _ (mr6 _ (List.mem_of_getElem? (i := 5) rfl)))) (fun _ h => h) rfl dX5_standsHere_7 (fun x_2 lx_2 ux_2 ex_2 => ?_)
      have bx_2 : 0 ≤ x_2 ∧ x_2 ≤ 168 := by rw [ex_2]; exact hg.1 _ m_a0 4 4 o_a0
      refine q_icmp_ge (tgt := 55) hx hb dX5_standsHere_10 (by decide) ⟨ly3_5, uy3_5⟩ ⟨lx_2, ux_2⟩ (fun c10 => ?_) (fun c10 => ?_)
      · refine q_iconst hx hb dX5_standsHere_55 ?_
        exact q_ret_z hx hb hr hlocks hK hAe hw (by omega) (Nat.le_of_ble_eq_true rfl) (Nat.le_of_ble_eq_true rfl) dX5_standsHere_56 ⟨rfl, rfl, by exact Or.inl ⟨by omega, fun i q0 q1 => i2 i q0 (by omega)⟩⟩
      · refine lv_iload_n hx hb dX5_standsHere_13 rfl (lv_at hl 2 rfl) ?_
        refine lv_iload_n hx hb dX5_standsHere_14 rfl (lv_at hl 3 rfl) ?_
        first | refine q_iadd hx hb dX5_standsHere_15 ⟨by omega, by omega⟩ (fun x_3 lx_3 ux_3 ex_3 => ?_) | refine q_iaddw hx hb dX5_standsHere_15 (fun x_3 lx_3 ux_3 _ => ?_)
        refine lv_aload_n hx hb dX5_standsHere_16 rfl (lv_at hl 0 rfl) ?_
        refine q_geti (ci := 4) (C := RX5) (T := TX5) (N := 10) hx hb hts (fun w h => List.mem_cons_of_mem _ (mfX50 w h)) hown hK hw m_a0 o_a0 rfl 3 (by decide) (hts _ (List.mem_cons_of_mem _ (mr6 _ (List.mem_of_getElem? (i := 4) rfl)))) (fun _ h => h) rfl dX5_standsHere_17 (fun x_4 lx_4 ux_4 ex_4 => ?_)
        have bx_4 : 0 ≤ x_4 ∧ x_4 ≤ 168 := by rw [ex_4]; exact hg.1 _ m_a0 4 3 o_a0
        first | refine q_isub hx hb dX5_standsHere_20 ⟨by omega, by omega⟩ (fun x_5 lx_5 ux_5 ex_5 => ?_) | refine q_isubw hx hb dX5_standsHere_20 (fun x_5 lx_5 ux_5 _ => ?_)
        refine lv_istore (lv' := [(4, .int (iI x_5)), (0, .ref a0), (1, .ref a1), (2, .int (iI x2)), (3, .int (iI y3_5))]) hx hb dX5_standsHere_21 hl (by decide) rfl (fun ls hl => ?_)
        refine lv_iload hx hb dX5_standsHere_23 (lv_at hl 0 rfl) ?_
        refine lv_aload_n hx hb dX5_standsHere_25 rfl (lv_at hl 2 rfl) ?_
        refine q_call_i hA hK hw (va_runV (As := []) (rest := [.int (iI x_5)]) ⟨hx, hb, hml, hown, hts⟩ (c_J0_length_8abf5 zo l D cy L0 f0 a1 b_a1 v_a1 nb_a1 tx_a1 _) (cwV 0 hts (gT (inV (mr8 _ (List.mem_of_getElem? (i := 1) rfl)) (mr8 _ (List.mem_of_getElem? (i := 2) rfl)) (mr8 _ (List.mem_of_getElem? (i := 3) rfl)) (mr8 _ (List.mem_of_getElem? (i := 4) rfl)) (mr8 _ (List.mem_of_getElem? (i := 5) rfl)))) rfl rfl rfl (by decide +kernel) ⟨Nat.le_of_ble_eq_true rfl, Nat.le_of_ble_eq_true rfl⟩) (Wd.preVT zo hA hZ hw hK tx_a1) rfl rfl hl.1 rfl (lv_room (Nat.le_of_ble_eq_true rfl)) dX5_standsHere_26 ⟨Nat.le_of_ble_eq_true rfl, Nat.le_of_ble_eq_true rfl⟩) (fun x_6 L1 f1 H locs lx_6 ux_6 ex_6 hw => ?_)
        obtain ⟨rfl, rfl, ex_6⟩ := ex_6
        have t26 := ex_6
        refine q_icmp_ge (tgt := 47) hx hb dX5_standsHere_29 (by decide) ⟨lx_5, ux_5⟩ ⟨lx_6, ux_6⟩ (fun c29 => ?_) (fun c29 => ?_)
        · refine q_iconst hx hb dX5_standsHere_47 ?_
          exact q_ret_z hx hb hr hlocks hK hAe hw (by omega) (Nat.le_of_ble_eq_true rfl) (Nat.le_of_ble_eq_true rfl) dX5_standsHere_48 ⟨rfl, rfl, by first | exact Or.inr ⟨by omega, fun z => by have := (z y3_5 (by omega) (by omega)).1; omega⟩ | exact Or.inr ⟨by omega, fun z => by have := (z y3_5 (by omega) (by omega)).2; exact c44 (sh_ne t37 t41 this (by omega))⟩⟩
        · refine lv_aload_n hx hb dX5_standsHere_32 rfl (lv_at hl 1 rfl) ?_
          obtain ⟨r_7, er_7, m_r_7, o_r_7⟩ := (show ∃ r, fR f0 a0 0 = some r ∧ r ∈ L0 ∧ ArI f0 r cy.1 168 from hg.2.1 _ m_a0 4 0 o_a0)
          refine q_getr (ci := 4) (C := RX5) (T := TX5) (N := 10) hx hb hts (fun w h => List.mem_cons_of_mem _ (mfX50 w h)) hown hK hw m_a0 o_a0 rfl 0 (by decide) (hts _ (List.mem_cons_of_mem _ (mr6 _ (List.mem_of_getElem? (i := 11) rfl)))) (fun _ h => h) rfl er_7 dX5_standsHere_33 ?_
          have t33 := er_7
          refine lv_iload_n hx hb dX5_standsHere_36 rfl (lv_at hl 4 rfl) ?_
          refine q_chld hx hb hK hw m_r_7 0 o_r_7 rfl ⟨ly3_5, uy3_5⟩ (by omega) (by omega) dX5_standsHere_37 (fun x_8 lx_8 ux_8 ex_8 => ?_)
          have t37 := rt.at t33 ex_8 (by omega) (by omega)
          refine lv_aload_n hx hb dX5_standsHere_38 rfl (lv_at hl 2 rfl) ?_
          refine lv_iload hx hb dX5_standsHere_39 (lv_at hl 0 rfl) ?_
          refine q_call_i hA hK hw (va_runV (As := [.int (iI x_5)]) (rest := [.int (iI x_8)]) ⟨hx, hb, hml, hown, hts⟩ (c_J0_charAt_5068e zo l D cy L0 f0 a1 x_5 lx_5 ux_5 b_a1 v_a1 nb_a1 tx_a1 (by omega) (by omega) _) (cwV 1 hts (gT (inV (mr8 _ (List.mem_of_getElem? (i := 17) rfl)) (mr8 _ (List.mem_of_getElem? (i := 18) rfl)) (mr8 _ (List.mem_of_getElem? (i := 19) rfl)) (mr8 _ (List.mem_of_getElem? (i := 4) rfl)) (mr8 _ (List.mem_of_getElem? (i := 20) rfl)))) rfl rfl rfl (by decide +kernel) ⟨Nat.le_of_ble_eq_true rfl, Nat.le_of_ble_eq_true rfl⟩) (Wd.preVT zo hA hZ hw hK tx_a1) rfl rfl hl.1 rfl (lv_room (Nat.le_of_ble_eq_true rfl)) dX5_standsHere_41 ⟨Nat.le_of_ble_eq_true rfl, Nat.le_of_ble_eq_true rfl⟩) (fun x_9 L1 f1 H locs lx_9 ux_9 ex_9 hw => ?_)
          obtain ⟨rfl, rfl, ex_9⟩ := ex_9
          have t41 := ex_9.1
          refine q_icmp_eq (tgt := 49) hx hb dX5_standsHere_44 (by decide) ⟨lx_8, ux_8⟩ ⟨lx_9, ux_9⟩ (fun c44 => ?_) (fun c44 => ?_)
          · obtain ⟨x_10, lx_10, ux_10, hx_10, ex_10⟩ := q_inc y3_5 (1)
            try (replace ex_10 : x_10 = y3_5 + (1) := by omega)
            refine lv_iinc (v := iI x_10) (lv' := [(3, .int (iI x_10)), (4, .int (iI x_5)), (0, .ref a0), (1, .ref a1), (2, .int (iI x2))]) hx hb dX5_standsHere_49 hl (k := 4) rfl hx_10 (by decide) rfl (fun ls hl => ?_)
            refine lv_goto (tgt := 5) hx hb dX5_standsHere_52 (by decide) ?_
            exact ih5 x_10 lx_10 ux_10 (by omega) (by first | exact fun i q0 q1 => absurd q1 (by omega) | exact sh_go i2 (by omega) (sh_eq t37 t41 c44 (by omega)) (by omega)) (by omega) _ _ _ hw (lv_sub hl [2, 3, 4, 0] rfl)
          · refine q_iconst hx hb dX5_standsHere_47 ?_
            exact q_ret_z hx hb hr hlocks hK hAe hw (by omega) (Nat.le_of_ble_eq_true rfl) (Nat.le_of_ble_eq_true rfl) dX5_standsHere_48 ⟨rfl, rfl, by first | exact Or.inr ⟨by omega, fun z => by have := (z y3_5 (by omega) (by omega)).1; omega⟩ | exact Or.inr ⟨by omega, fun z => by have := (z y3_5 (by omega) (by omega)).2; exact c44 (sh_ne t37 t41 this (by omega))⟩⟩
  exact J5 ((((2147483647 : Int) - x_1).toNat) + 1) x_1 lx_1 ux_1 (by omega) (by first | exact fun i q0 q1 => absurd q1 (by omega) | exact sh_go i2 (by omega) (sh_eq t37 t41 c44 (by omega)) (by omega)) (by omega) _ _ _ hw (lv_sub hl [1, 2, 3, 0] rfl)
set_option maxHeartbeats 4000000 in
set_option maxRecDepth 100000 in
theorem c_X5_take_p {Z : Zt} (zo : Zok Z) (l : Launch) (D : va_G) (cy : Cy) (L0 : List Nat) (f0 : Nat → va_E) (a0 : Nat) (a1 : Nat) (m_a0 : a0 ∈ L0) (o_a0 : Ob f0 a0 4) (b_a1 : List Int32) (v_a1 : Nat) (nb_a1 : Asc b_a1) (tx_a1 : ∀ (A : Nat → Prop) (U : State) (H : Heap), Z A U H → Tx b_a1 a1 v_a1 A U H) (hg : GI cy L0 f0) (Tt : Int → Int) (nn : Int) (tp : Nat) (rt : RT Tt nn f0 a0 tp) (ee : Int) (rs : RS Tt nn f0 a0 ee) (e0 : 0 ≤ ee) (e1 : ee ≤ nn) : Ci Z l yX5_take (Cond.code yX5_take cX5_take 2 (some .boolean) :: TB) ({ frames := 5, cells := 0, slots := 0, locals := 109 } : Room) 0 0 D (tq cy) [.ref a0, .ref a1] L0 f0 (fun (r : Int) (L1 : List Nat) (f1 : Nat → va_E) => L0 = L1 ∧ GI cy L0 f1 ∧ Ex cy f0 f1 ∧ ((r = 1 ∧ isW Tt nn ee b_a1 ∧ OA f0 f1 a0 ∧ K5 f0 f1 a0 ∧ RT Tt nn f1 a0 tp ∧ RS Tt nn f1 a0 (tQ Tt nn ee)) ∨ (r = 0 ∧ ¬ isW Tt nn ee b_a1 ∧ f1 = f0))) := by
  refine Ci.enter (cc := cX5_take) (n := 2) rfl (plainFor_of_name (by decide)) (Nat.le_of_ble_eq_true rfl) ?_
  intro p e s m below meth c ls A hx hb hr hts hown hlocks hnm hml hK hA hAe hw hZ hl
  have hown : s.vm.findClass RX5 = some m.cls := hown
  have hl : lv_has ls 2 [(0, .ref a0), (1, .ref a1)] := hl
  have hN : ZN s := (zo.2.2.2.2 _ _ _ hZ).2
  have hE : Ex cy f0 f0 := Ex.refl cy f0
  have nb0 := rt.2.2.1
  have nb1 := rt.2.2.2.1
  have rs1 := rs.1
  have rs2 := rs.2.1
  have rs3 := rs.2.2
  have pb := tP_b (T := Tt) e1
  have qb := tQ_b (T := Tt) e1
  refine lv_aload_n hx hb dX5_take_0 rfl (lv_at hl 0 rfl) ?_
  refine q_geti (ci := 4) (C := RX5) (T := TX5) (N := 10) hx hb hts (fun w h => List.mem_cons_of_mem _ (mfX50 w h)) hown hK hw m_a0 o_a0 rfl 2 (by decide) (hts _ (List.mem_cons_of_mem _ (mr6 _ (List.mem_of_getElem? (i := 3) rfl)))) (fun _ h => h) rfl dX5_take_1 (fun x_1 lx_1 ux_1 ex_1 => ?_)
  refine q_iconst hx hb dX5_take_4 ?_
  refine q_icmp_ne (tgt := 33) hx hb dX5_take_5 (by decide) ⟨lx_1, ux_1⟩ ⟨by decide, by decide⟩ (fun c5 => ?_) (fun c5 => ?_)
  · refine q_iconst hx hb dX5_take_33 ?_
    exact q_ret_z hx hb hr hlocks hK hAe hw (by omega) (Nat.le_of_ble_eq_true rfl) (Nat.le_of_ble_eq_true rfl) dX5_take_34 (by first | exact ⟨rfl, hg, hE, Or.inr ⟨by omega, fun z => by have := z.1; omega, rfl⟩⟩ | exact ⟨rfl, hg, hE, Or.inr ⟨by omega, fun z => by have := z.2.1; omega, rfl⟩⟩ | exact ⟨rfl, hg, hE, Or.inr ⟨by omega, fun z => (t27.resolve_left (by omega)).2 z.sh, rfl⟩⟩)
  · refine lv_aload_n hx hb dX5_take_8 rfl (lv_at hl 0 rfl) ?_
    refine q_geti (ci := 4) (C := RX5) (T := TX5) (N := 10) hx hb hts (fun w h => List.mem_cons_of_mem _ (mfX50 w h)) hown hK hw m_a0 o_a0 rfl 4 (by decide) (hts _ (List.mem_cons_of_mem _ (mr6 _ (List.mem_of_getElem? (i := 5) rfl)))) (fun _ h => h) rfl dX5_take_9 (fun x_2 lx_2 ux_2 ex_2 => ?_)
    have bx_2 : 0 ≤ x_2 ∧ x_2 ≤ 168 := by rw [ex_2]; exact hg.1 _ m_a0 4 4 o_a0
    refine lv_aload_n hx hb dX5_take_12 rfl (lv_at hl 0 rfl) ?_
    refine q_geti (ci := 4) (C := RX5) (T := TX5) (N := 10) hx hb hts (fun w h => List.mem_cons_of_mem _ (mfX50 w h)) hown hK hw m_a0 o_a0 rfl 3 (by decide) (hts _ (List.mem_cons_of_mem _ (mr6 _ (List.mem_of_getElem? (i := 4) rfl)))) (fun _ h => h) rfl dX5_take_13 (fun x_3 lx_3 ux_3 ex_3 => ?_)
    have bx_3 : 0 ≤ x_3 ∧ x_3 ≤ 168 := by rw [ex_3]; exact hg.1 _ m_a0 4 3 o_a0
    first | refine q_isub hx hb dX5_take_16 ⟨by omega, by omega⟩ (fun x_4 lx_4 ux_4 ex_4 => ?_) | refine q_isubw hx hb dX5_take_16 (fun x_4 lx_4 ux_4 _ => ?_)
    refine lv_aload_n hx hb dX5_take_17 rfl (lv_at hl 1 rfl) ?_
    refine q_call_i hA hK hw (va_runV (As := []) (rest := [.int (iI x_4)]) ⟨hx, hb, hml, hown, hts⟩ (c_J0_length_8abf5 zo l D cy L0 f0 a1 b_a1 v_a1 nb_a1 tx_a1 _) (cwV 0 hts (gT (inV (mr8 _ (List.mem_of_getElem? (i := 1) rfl)) (mr8 _ (List.mem_of_getElem? (i := 2) rfl)) (mr8 _ (List.mem_of_getElem? (i := 3) rfl)) (mr8 _ (List.mem_of_getElem? (i := 4) rfl)) (mr8 _ (List.mem_of_getElem? (i := 5) rfl)))) rfl rfl rfl (by decide +kernel) ⟨Nat.le_of_ble_eq_true rfl, Nat.le_of_ble_eq_true rfl⟩) (Wd.preVT zo hA hZ hw hK tx_a1) rfl rfl hl.1 rfl (lv_room (Nat.le_of_ble_eq_true rfl)) dX5_take_18 ⟨Nat.le_of_ble_eq_true rfl, Nat.le_of_ble_eq_true rfl⟩) (fun x_5 L1 f1 H locs lx_5 ux_5 ex_5 hw => ?_)
    obtain ⟨rfl, rfl, ex_5⟩ := ex_5
    have t18 := ex_5
    refine q_icmp_ne (tgt := 33) hx hb dX5_take_21 (by decide) ⟨lx_4, ux_4⟩ ⟨lx_5, ux_5⟩ (fun c21 => ?_) (fun c21 => ?_)
    · refine q_iconst hx hb dX5_take_33 ?_
      exact q_ret_z hx hb hr hlocks hK hAe hw (by omega) (Nat.le_of_ble_eq_true rfl) (Nat.le_of_ble_eq_true rfl) dX5_take_34 (by first | exact ⟨rfl, hg, hE, Or.inr ⟨by omega, fun z => by have := z.1; omega, rfl⟩⟩ | exact ⟨rfl, hg, hE, Or.inr ⟨by omega, fun z => by have := z.2.1; omega, rfl⟩⟩ | exact ⟨rfl, hg, hE, Or.inr ⟨by omega, fun z => (t27.resolve_left (by omega)).2 z.sh, rfl⟩⟩)
    · refine lv_aload_n hx hb dX5_take_24 rfl (lv_at hl 0 rfl) ?_
      refine lv_aload_n hx hb dX5_take_25 rfl (lv_at hl 1 rfl) ?_
      refine q_iconst hx hb dX5_take_26 ?_
      refine q_call_i hA hK hw (va_runV (As := [.ref a1, .int (iI 0)]) (rest := []) ⟨hx, hb, hml, hown, hts⟩ (c_X5_standsHere_p zo l D cy L0 f0 a0 a1 0 (by decide) (by decide) m_a0 o_a0 b_a1 v_a1 nb_a1 tx_a1 hg Tt nn tp rt (by omega) (by omega) (by omega) (by omega) _) (cwV 2 hts (gT (inV (mr8 _ (List.mem_of_getElem? (i := 13) rfl)) (mr8 _ (List.mem_of_getElem? (i := 14) rfl)) (mr8 _ (List.mem_of_getElem? (i := 15) rfl)) (mr5 _ (List.mem_of_getElem? (i := 18) rfl)) (mr8 _ (List.mem_of_getElem? (i := 16) rfl)))) rfl rfl rfl (by decide +kernel) ⟨Nat.le_of_ble_eq_true rfl, Nat.le_of_ble_eq_true rfl⟩) (Wd.preV zo hA hZ hw hK m_a0 o_a0 rfl) rfl rfl hl.1 rfl (lv_room (Nat.le_of_ble_eq_true rfl)) dX5_take_27 ⟨Nat.le_of_ble_eq_true rfl, Nat.le_of_ble_eq_true rfl⟩) (fun x_6 L1 f1 H locs lx_6 ux_6 ex_6 hw => ?_)
      obtain ⟨rfl, rfl, ex_6⟩ := ex_6
      have t27 := ex_6
      rw [rs2, rs3] at t27
      refine q_if_ne (tgt := 35) hx hb dX5_take_30 (by decide) ⟨lx_6, ux_6⟩ (fun c30 => ?_) (fun c30 => ?_)
      · refine lv_aload_n hx hb dX5_take_35 rfl (lv_at hl 0 rfl) ?_
        refine q_call_v hA hK hw (va_runV (As := []) (rest := []) ⟨hx, hb, hml, hown, hts⟩ (c_X5_step_p zo l D cy L0 f0 a0 m_a0 o_a0 hg Tt nn tp rt (by omega) (by omega) _) (cwV 0 hts (gT (inV (mr7 _ (List.mem_of_getElem? (i := 2) rfl)) (mr7 _ (List.mem_of_getElem? (i := 3) rfl)) (mr7 _ (List.mem_of_getElem? (i := 4) rfl)) (mr5 _ (List.mem_of_getElem? (i := 18) rfl)) (mr7 _ (List.mem_of_getElem? (i := 5) rfl)))) rfl rfl rfl (by decide +kernel) ⟨Nat.le_of_ble_eq_true rfl, Nat.le_of_ble_eq_true rfl⟩) (Wd.preV zo hA hZ hw hK m_a0 o_a0 rfl) rfl rfl hl.1 rfl (lv_room (Nat.le_of_ble_eq_true rfl)) dX5_take_36 ⟨Nat.le_of_ble_eq_true rfl, Nat.le_of_ble_eq_true rfl⟩) (fun L1 f_8 H locs ex_7 hw => ?_)
        obtain ⟨rfl, hg, hX, ex_7⟩ := ex_7
        have hE := hE.trans hX
        have o_a0 := hX.1.1 _ _ o_a0
        have n9 := ex_7
        rw [rs3] at n9
        refine q_iconst hx hb dX5_take_39 ?_
        exact q_ret_z hx hb hr hlocks hK hAe hw (by omega) (Nat.le_of_ble_eq_true rfl) (Nat.le_of_ble_eq_true rfl) dX5_take_40 (by exact ⟨rfl, hg, hE, Or.inl ⟨by omega, isW_of (by omega) (by omega) (t27.resolve_right (by omega)).2, n9.1, n9.2.1, n9.2.2.1, n9.2.2.2⟩⟩)
      · refine q_iconst hx hb dX5_take_33 ?_
        exact q_ret_z hx hb hr hlocks hK hAe hw (by omega) (Nat.le_of_ble_eq_true rfl) (Nat.le_of_ble_eq_true rfl) dX5_take_34 (by first | exact ⟨rfl, hg, hE, Or.inr ⟨by omega, fun z => by have := z.1; omega, rfl⟩⟩ | exact ⟨rfl, hg, hE, Or.inr ⟨by omega, fun z => by have := z.2.1; omega, rfl⟩⟩ | exact ⟨rfl, hg, hE, Or.inr ⟨by omega, fun z => (t27.resolve_left (by omega)).2 z.sh, rfl⟩⟩)
set_option maxHeartbeats 4000000 in
set_option maxRecDepth 100000 in
theorem c_X5_refuse_p {Z : Zt} (zo : Zok Z) (l : Launch) (D : va_G) (cy : Cy) (L0 : List Nat) (f0 : Nat → va_E) (a0 : Nat) (x1 : Int) (lx1 : -2147483648 ≤ x1) (ux1 : x1 ≤ 2147483647) (m_a0 : a0 ∈ L0) (o_a0 : Ob f0 a0 4) (hg : GI cy L0 f0) (p0 : 0 ≤ fI f0 a0 3) (p1 : fI f0 a0 3 ≤ 168) (x0 : 0 ≤ x1) (x3 : x1 ≤ 3) : Ci Z l yX5_refuse (Cond.code yX5_refuse cX5_refuse 2 (some .boolean) :: TB) ({ frames := 0, cells := 0, slots := 0, locals := 0 } : Room) 0 0 D (tq cy) [.ref a0, .int (iI x1)] L0 f0 (fun (r : Int) (L1 : List Nat) (f1 : Nat → va_E) => L0 = L1 ∧ GI cy L0 f1 ∧ Ex cy f0 f1 ∧ (r = 0 ∧ OA f0 f1 a0 ∧ fI f1 a0 5 = 8 * fI f0 a0 3 + x1)) := by
  refine Ci.enter (cc := cX5_refuse) (n := 2) rfl (plainFor_of_name (by decide)) (Nat.le_of_ble_eq_true rfl) ?_
  intro p e s m below meth c ls A hx hb hr hts hown hlocks hnm hml hK hA hAe hw hZ hl
  have hown : s.vm.findClass RX5 = some m.cls := hown
  have hl : lv_has ls 2 [(0, .ref a0), (1, .int (iI x1))] := hl
  have hN : ZN s := (zo.2.2.2.2 _ _ _ hZ).2
  have hE : Ex cy f0 f0 := Ex.refl cy f0
  have oa := OA.refl f0 a0
  refine lv_aload_n hx hb dX5_refuse_0 rfl (lv_at hl 0 rfl) ?_
  refine q_bipush hx hb dX5_refuse_1 rfl ?_
  refine lv_aload_n hx hb dX5_refuse_3 rfl (lv_at hl 0 rfl) ?_
  refine q_geti (ci := 4) (C := RX5) (T := TX5) (N := 10) hx hb hts (fun w h => List.mem_cons_of_mem _ (mfX50 w h)) hown hK hw m_a0 o_a0 rfl 3 (by decide) (hts _ (List.mem_cons_of_mem _ (mr6 _ (List.mem_of_getElem? (i := 4) rfl)))) (fun _ h => h) rfl dX5_refuse_4 (fun x_1 lx_1 ux_1 ex_1 => ?_)
  have bx_1 : 0 ≤ x_1 ∧ x_1 ≤ 168 := by rw [ex_1]; exact hg.1 _ m_a0 4 3 o_a0
  first | refine q_imul hx hb dX5_refuse_7 ⟨by omega, by omega⟩ (fun x_2 lx_2 ux_2 ex_2 => ?_) | refine q_imulw hx hb dX5_refuse_7 (fun x_2 lx_2 ux_2 _ => ?_)
  refine lv_iload_n hx hb dX5_refuse_8 rfl (lv_at hl 1 rfl) ?_
  first | refine q_iadd hx hb dX5_refuse_9 ⟨by omega, by omega⟩ (fun x_3 lx_3 ux_3 ex_3 => ?_) | refine q_iaddw hx hb dX5_refuse_9 (fun x_3 lx_3 ux_3 _ => ?_)
  refine q_puti (ci := 4) (C := RX5) (T := TX5) (N := 10) hx hb hts (fun w h => List.mem_cons_of_mem _ (mfX50 w h)) hown hK hw m_a0 o_a0 rfl 5 (by decide) (hts _ (List.mem_cons_of_mem _ (mr6 _ (List.mem_of_getElem? (i := 6) rfl)))) (fun _ h => h) tyX5 tyX5_ok nmX5 rfl (ty := .int) (by decide +kernel) rfl rfl dX5_refuse_10 (fun H locs hw => ?_)
  have oo := o_a0
  obtain ⟨f_4, ef_4⟩ : ∃ g : Nat → va_E, g = pU f0 a0 5 (.int (iI x_3)) := ⟨_, rfl⟩
  have hX : Ex cy f0 f_4 := by rw [ef_4]; exact Ex_pU oo rfl rfl (by decide)
  have hg : GI cy L0 f_4 := by rw [ef_4]; exact hg.putI oo rfl ⟨lx_3, ux_3⟩ trivial
  rw [← ef_4] at hw
  have hE := hE.trans hX
  have o_a0 := hX.1.1 _ _ o_a0
  have vf_4 : fI f_4 a0 5 = x_3 := by rw [ef_4]; exact fI_pU_self oo rfl ⟨lx_3, ux_3⟩
  have oa := oa.put ef_4
  refine q_iconst hx hb dX5_refuse_13 ?_
  exact q_ret_z hx hb hr hlocks hK hAe hw (by omega) (Nat.le_of_ble_eq_true rfl) (Nat.le_of_ble_eq_true rfl) dX5_refuse_14 (by exact ⟨rfl, hg, hE, by omega, oa, by omega⟩)
set_option maxHeartbeats 4000000 in
set_option maxRecDepth 100000 in
theorem c_X5_require_p {Z : Zt} (zo : Zok Z) (l : Launch) (D : va_G) (cy : Cy) (L0 : List Nat) (f0 : Nat → va_E) (a0 : Nat) (a1 : Nat) (m_a0 : a0 ∈ L0) (o_a0 : Ob f0 a0 4) (b_a1 : List Int32) (v_a1 : Nat) (nb_a1 : Asc b_a1) (tx_a1 : ∀ (A : Nat → Prop) (U : State) (H : Heap), Z A U H → Tx b_a1 a1 v_a1 A U H) (hg : GI cy L0 f0) (Tt : Int → Int) (nn : Int) (tp : Nat) (rt : RT Tt nn f0 a0 tp) (ee : Int) (rs : RS Tt nn f0 a0 ee) (e0 : 0 ≤ ee) (e1 : ee ≤ nn) : Ci Z l yX5_require (Cond.code yX5_require cX5_require 2 (some .boolean) :: TB) ({ frames := 6, cells := 0, slots := 0, locals := 130 } : Room) 0 0 D (tq cy) [.ref a0, .ref a1] L0 f0 (fun (r : Int) (L1 : List Nat) (f1 : Nat → va_E) => L0 = L1 ∧ GI cy L0 f1 ∧ Ex cy f0 f1 ∧ ((r = 1 ∧ isW Tt nn ee b_a1 ∧ OA f0 f1 a0 ∧ K5 f0 f1 a0 ∧ RT Tt nn f1 a0 tp ∧ RS Tt nn f1 a0 (tQ Tt nn ee)) ∨ (r = 0 ∧ ¬ isW Tt nn ee b_a1 ∧ OA f0 f1 a0 ∧ fI f1 a0 5 = 8 * tP Tt nn ee + 1))) := by
  refine Ci.enter (cc := cX5_require) (n := 2) rfl (plainFor_of_name (by decide)) (Nat.le_of_ble_eq_true rfl) ?_
  intro p e s m below meth c ls A hx hb hr hts hown hlocks hnm hml hK hA hAe hw hZ hl
  have hown : s.vm.findClass RX5 = some m.cls := hown
  have hl : lv_has ls 2 [(0, .ref a0), (1, .ref a1)] := hl
  have hN : ZN s := (zo.2.2.2.2 _ _ _ hZ).2
  have hE : Ex cy f0 f0 := Ex.refl cy f0
  have nb0 := rt.2.2.1
  have nb1 := rt.2.2.2.1
  have rs1 := rs.1
  have rs2 := rs.2.1
  have rs3 := rs.2.2
  have pb := tP_b (T := Tt) e1
  have qb := tQ_b (T := Tt) e1
  refine lv_aload_n hx hb dX5_require_0 rfl (lv_at hl 0 rfl) ?_
  refine lv_aload_n hx hb dX5_require_1 rfl (lv_at hl 1 rfl) ?_
  refine q_call_i hA hK hw (va_runV (As := [.ref a1]) (rest := []) ⟨hx, hb, hml, hown, hts⟩ (c_X5_take_p zo l D cy L0 f0 a0 a1 m_a0 o_a0 b_a1 v_a1 nb_a1 tx_a1 hg Tt nn tp rt ee rs (by omega) (by omega) _) (cwV 1 hts (gT (inV (mr7 _ (List.mem_of_getElem? (i := 21) rfl)) (mr7 _ (List.mem_of_getElem? (i := 22) rfl)) (mr7 _ (List.mem_of_getElem? (i := 23) rfl)) (mr5 _ (List.mem_of_getElem? (i := 18) rfl)) (mr8 _ (List.mem_of_getElem? (i := 0) rfl)))) rfl rfl rfl (by decide +kernel) ⟨Nat.le_of_ble_eq_true rfl, Nat.le_of_ble_eq_true rfl⟩) (Wd.preV zo hA hZ hw hK m_a0 o_a0 rfl) rfl rfl hl.1 rfl (lv_room (Nat.le_of_ble_eq_true rfl)) dX5_require_2 ⟨Nat.le_of_ble_eq_true rfl, Nat.le_of_ble_eq_true rfl⟩) (fun x_1 L1 f_2 H locs lx_1 ux_1 ex_1 hw => ?_)
  obtain ⟨rfl, hg, hX, ex_1⟩ := ex_1
  have hE := hE.trans hX
  have o_a0 := hX.1.1 _ _ o_a0
  have t2 := ex_1
  refine q_if_ne (tgt := 16) hx hb dX5_require_5 (by decide) ⟨lx_1, ux_1⟩ (fun c5 => ?_) (fun c5 => ?_)
  · refine q_iconst hx hb dX5_require_16 ?_
    refine lv_goto (tgt := 21) hx hb dX5_require_17 (by decide) ?_
    exact q_ret_z hx hb hr hlocks hK hAe hw (by omega) (Nat.le_of_ble_eq_true rfl) (Nat.le_of_ble_eq_true rfl) dX5_require_21 (by first | exact ⟨rfl, hg, hE, Or.inl ⟨by omega, (t2.resolve_right (by omega)).2⟩⟩ | exact ⟨rfl, hg, hE, Or.inr ⟨by omega, z2, t10.2.1, by omega⟩⟩)
  · obtain ⟨z1, z2, z3⟩ := t2.resolve_left (by omega)
    have z4 : fI f_2 a0 3 = fI f0 a0 3 := by rw [z3]
    refine lv_aload_n hx hb dX5_require_8 rfl (lv_at hl 0 rfl) ?_
    refine q_iconst hx hb dX5_require_9 ?_
    refine q_call_i hA hK hw (va_runV (As := [.int (iI 1)]) (rest := []) ⟨hx, hb, hml, hown, hts⟩ (c_X5_refuse_p zo l D cy L0 f_2 a0 1 (by decide) (by decide) m_a0 o_a0 hg (by omega) (by omega) (by omega) (by omega) _) (cwV 1 hts (gT (inV (mr10 _ (List.mem_of_getElem? (i := 6) rfl)) (mr10 _ (List.mem_of_getElem? (i := 7) rfl)) (mr10 _ (List.mem_of_getElem? (i := 8) rfl)) (mr5 _ (List.mem_of_getElem? (i := 18) rfl)) (mr10 _ (List.mem_of_getElem? (i := 9) rfl)))) rfl rfl rfl (by decide +kernel) ⟨Nat.le_of_ble_eq_true rfl, Nat.le_of_ble_eq_true rfl⟩) (Wd.preV zo hA hZ hw hK m_a0 o_a0 rfl) rfl rfl hl.1 rfl (lv_room (Nat.le_of_ble_eq_true rfl)) dX5_require_10 ⟨Nat.le_of_ble_eq_true rfl, Nat.le_of_ble_eq_true rfl⟩) (fun x_3 L1 f_4 H locs lx_3 ux_3 ex_3 hw => ?_)
    obtain ⟨rfl, hg, hX, ex_3⟩ := ex_3
    have hE := hE.trans hX
    have o_a0 := hX.1.1 _ _ o_a0
    have t10 := ex_3
    rw [z3] at t10
    refine q_if_eq (tgt := 20) hx hb dX5_require_13 (by decide) ⟨lx_3, ux_3⟩ (fun c13 => ?_) (fun c13 => ?_)
    · refine q_iconst hx hb dX5_require_20 ?_
      exact q_ret_z hx hb hr hlocks hK hAe hw (by omega) (Nat.le_of_ble_eq_true rfl) (Nat.le_of_ble_eq_true rfl) dX5_require_21 (by first | exact ⟨rfl, hg, hE, Or.inl ⟨by omega, (t2.resolve_right (by omega)).2⟩⟩ | exact ⟨rfl, hg, hE, Or.inr ⟨by omega, z2, t10.2.1, by omega⟩⟩)
    · refine q_iconst hx hb dX5_require_16 ?_
      refine lv_goto (tgt := 21) hx hb dX5_require_17 (by decide) ?_
      exact q_ret_z hx hb hr hlocks hK hAe hw (by omega) (Nat.le_of_ble_eq_true rfl) (Nat.le_of_ble_eq_true rfl) dX5_require_21 (by first | exact ⟨rfl, hg, hE, Or.inl ⟨by omega, (t2.resolve_right (by omega)).2⟩⟩ | exact ⟨rfl, hg, hE, Or.inr ⟨by omega, z2, t10.2.1, by omega⟩⟩)
set_option maxHeartbeats 4000000 in
set_option maxRecDepth 100000 in
theorem c_X5_takeNumber_p {Z : Zt} (zo : Zok Z) (l : Launch) (D : va_G) (cy : Cy) (L0 : List Nat) (f0 : Nat → va_E) (a0 : Nat) (x1 : Int) (lx1 : -2147483648 ≤ x1) (ux1 : x1 ≤ 2147483647) (x2 : Int) (lx2 : -2147483648 ≤ x2) (ux2 : x2 ≤ 2147483647) (m_a0 : a0 ∈ L0) (o_a0 : Ob f0 a0 4) (hg : GI cy L0 f0) (Tt : Int → Int) (nn : Int) (tp : Nat) (rt : RT Tt nn f0 a0 tp) (ee : Int) (rs : RS Tt nn f0 a0 ee) (e0 : 0 ≤ ee) (e1 : ee ≤ nn) : Ci Z l yX5_takeNumber (Cond.code yX5_takeNumber cX5_takeNumber 5 (some .int) :: TB) ({ frames := 2, cells := 0, slots := 0, locals := 42 } : Room) 0 0 D (tq cy) [.ref a0, .int (iI x1), .int (iI x2)] L0 f0 (fun (r : Int) (L1 : List Nat) (f1 : Nat → va_E) => L0 = L1 ∧ GI cy L0 f1 ∧ Ex cy f0 f1 ∧ ((okN Tt nn ee ∧ x1 ≤ vN Tt nn ee ∧ vN Tt nn ee ≤ x2 ∧ r = vN Tt nn ee ∧ OA f0 f1 a0 ∧ K5 f0 f1 a0 ∧ RT Tt nn f1 a0 tp ∧ RS Tt nn f1 a0 (tQ Tt nn ee)) ∨ (¬ okN Tt nn ee ∧ r = -1 ∧ OA f0 f1 a0 ∧ fI f1 a0 5 = 8 * tP Tt nn ee + 1) ∨ (okN Tt nn ee ∧ (vN Tt nn ee < x1 ∨ x2 < vN Tt nn ee) ∧ r = -1 ∧ OA f0 f1 a0 ∧ fI f1 a0 5 = 8 * tP Tt nn ee + 2))) := by
  refine Ci.enter (cc := cX5_takeNumber) (n := 5) rfl (plainFor_of_name (by decide)) (Nat.le_of_ble_eq_true rfl) ?_
  intro p e s m below meth c ls A hx hb hr hts hown hlocks hnm hml hK hA hAe hw hZ hl
  have hown : s.vm.findClass RX5 = some m.cls := hown
  have hl : lv_has ls 5 [(0, .ref a0), (1, .int (iI x1)), (2, .int (iI x2))] := hl
  have hN : ZN s := (zo.2.2.2.2 _ _ _ hZ).2
  have hE : Ex cy f0 f0 := Ex.refl cy f0
  have nb0 := rt.2.2.1
  have nb1 := rt.2.2.2.1
  have rs1 := rs.1
  have rs2 := rs.2.1
  have rs3 := rs.2.2
  have pb := tP_b (T := Tt) e1
  have qb := tQ_b (T := Tt) e1
  refine lv_aload_n hx hb dX5_takeNumber_0 rfl (lv_at hl 0 rfl) ?_
  refine q_geti (ci := 4) (C := RX5) (T := TX5) (N := 10) hx hb hts (fun w h => List.mem_cons_of_mem _ (mfX50 w h)) hown hK hw m_a0 o_a0 rfl 2 (by decide) (hts _ (List.mem_cons_of_mem _ (mr6 _ (List.mem_of_getElem? (i := 3) rfl)))) (fun _ h => h) rfl dX5_takeNumber_1 (fun x_1 lx_1 ux_1 ex_1 => ?_)
  refine q_iconst hx hb dX5_takeNumber_4 ?_
  refine q_icmp_ne (tgt := 21) hx hb dX5_takeNumber_5 (by decide) ⟨lx_1, ux_1⟩ ⟨by decide, by decide⟩ (fun c5 => ?_) (fun c5 => ?_)
  · refine lv_aload_n hx hb dX5_takeNumber_21 rfl (lv_at hl 0 rfl) ?_
    refine q_iconst hx hb dX5_takeNumber_22 ?_
    refine q_call_i hA hK hw (va_runV (As := [.int (iI 1)]) (rest := []) ⟨hx, hb, hml, hown, hts⟩ (c_X5_refuse_p zo l D cy L0 f0 a0 1 (by decide) (by decide) m_a0 o_a0 hg (by omega) (by omega) (by omega) (by omega) _) (cwV 1 hts (gT (inV (mr10 _ (List.mem_of_getElem? (i := 6) rfl)) (mr10 _ (List.mem_of_getElem? (i := 7) rfl)) (mr10 _ (List.mem_of_getElem? (i := 8) rfl)) (mr5 _ (List.mem_of_getElem? (i := 18) rfl)) (mr10 _ (List.mem_of_getElem? (i := 9) rfl)))) rfl rfl rfl (by decide +kernel) ⟨Nat.le_of_ble_eq_true rfl, Nat.le_of_ble_eq_true rfl⟩) (Wd.preV zo hA hZ hw hK m_a0 o_a0 rfl) rfl rfl hl.1 rfl (lv_room (Nat.le_of_ble_eq_true rfl)) dX5_takeNumber_23 ⟨Nat.le_of_ble_eq_true rfl, Nat.le_of_ble_eq_true rfl⟩) (fun x_2 L1 f_3 H locs lx_2 ux_2 ex_2 hw => ?_)
    obtain ⟨rfl, hg, hX, ex_2⟩ := ex_2
    have hE := hE.trans hX
    have o_a0 := hX.1.1 _ _ o_a0
    have t23 := ex_2
    refine lv_pop hx hb dX5_takeNumber_26 rfl ?_
    refine q_iconst hx hb dX5_takeNumber_27 ?_
    exact q_ret_i hx hb hr hlocks hK hAe hw ⟨by decide, by decide⟩ (Nat.le_of_ble_eq_true rfl) (Nat.le_of_ble_eq_true rfl) dX5_takeNumber_28 (by exact ⟨rfl, hg, hE, Or.inr (Or.inl ⟨fun z => by have z1 := z.1; have z2 := z.2; omega, by omega, t23.2.1, by omega⟩)⟩)
  · refine lv_aload_n hx hb dX5_takeNumber_8 rfl (lv_at hl 0 rfl) ?_
    refine q_geti (ci := 4) (C := RX5) (T := TX5) (N := 10) hx hb hts (fun w h => List.mem_cons_of_mem _ (mfX50 w h)) hown hK hw m_a0 o_a0 rfl 4 (by decide) (hts _ (List.mem_cons_of_mem _ (mr6 _ (List.mem_of_getElem? (i := 5) rfl)))) (fun _ h => h) rfl dX5_takeNumber_9 (fun x_4 lx_4 ux_4 ex_4 => ?_)
    have bx_4 : 0 ≤ x_4 ∧ x_4 ≤ 168 := by rw [ex_4]; exact hg.1 _ m_a0 4 4 o_a0
    refine lv_aload_n hx hb dX5_takeNumber_12 rfl (lv_at hl 0 rfl) ?_
    refine q_geti (ci := 4) (C := RX5) (T := TX5) (N := 10) hx hb hts (fun w h => List.mem_cons_of_mem _ (mfX50 w h)) hown hK hw m_a0 o_a0 rfl 3 (by decide) (hts _ (List.mem_cons_of_mem _ (mr6 _ (List.mem_of_getElem? (i := 4) rfl)))) (fun _ h => h) rfl dX5_takeNumber_13 (fun x_5 lx_5 ux_5 ex_5 => ?_)
    have bx_5 : 0 ≤ x_5 ∧ x_5 ≤ 168 := by rw [ex_5]; exact hg.1 _ m_a0 4 3 o_a0
    first | refine q_isub hx hb dX5_takeNumber_16 ⟨by omega, by omega⟩ (fun x_6 lx_6 ux_6 ex_6 => ?_) | refine q_isubw hx hb dX5_takeNumber_16 (fun x_6 lx_6 ux_6 _ => ?_)
    refine q_iconst hx hb dX5_takeNumber_17 ?_
    refine q_icmp_le (tgt := 29) hx hb dX5_takeNumber_18 (by decide) ⟨lx_6, ux_6⟩ ⟨by decide, by decide⟩ (fun c18 => ?_) (fun c18 => ?_)
    · refine q_iconst hx hb dX5_takeNumber_29 ?_
      refine lv_istore_n (lv' := [(3, .int (iI 0)), (0, .ref a0), (1, .int (iI x1)), (2, .int (iI x2))]) hx hb dX5_takeNumber_30 rfl hl (by decide) rfl (fun ls hl => ?_)
      refine lv_aload_n hx hb dX5_takeNumber_31 rfl (lv_at hl 1 rfl) ?_
      refine q_geti (ci := 4) (C := RX5) (T := TX5) (N := 10) hx hb hts (fun w h => List.mem_cons_of_mem _ (mfX50 w h)) hown hK hw m_a0 o_a0 rfl 3 (by decide) (hts _ (List.mem_cons_of_mem _ (mr6 _ (List.mem_of_getElem? (i := 4) rfl)))) (fun _ h => h) rfl dX5_takeNumber_32 (fun x_7 lx_7 ux_7 ex_7 => ?_)
      have bx_7 : 0 ≤ x_7 ∧ x_7 ≤ 168 := by rw [ex_7]; exact hg.1 _ m_a0 4 3 o_a0
      refine lv_istore (lv' := [(4, .int (iI x_7)), (3, .int (iI 0)), (0, .ref a0), (1, .int (iI x1)), (2, .int (iI x2))]) hx hb dX5_takeNumber_35 hl (by decide) rfl (fun ls hl => ?_)
      have J37 : ∀ (n37 : Nat) (y3_37 : Int) (ly3_37 : -2147483648 ≤ y3_37) (uy3_37 : y3_37 ≤ 2147483647) (y4_37 : Int) (ly4_37 : -2147483648 ≤ y4_37) (uy4_37 : y4_37 ≤ 2147483647) (i1 : tP Tt nn ee ≤ y4_37) (i2 : y4_37 ≤ tQ Tt nn ee) (v1 : y3_37 = nv Tt (tP Tt nn ee) y4_37) (v2 : DG y3_37 (y4_37 - tP Tt nn ee)) (hn37 : ((2147483647 : Int) - y4_37).toNat < n37) (H : Heap) (locs : List Loc) (ls : Array Slot) (hw : Wd D A s.heap L0 f0 H locs) (hl : lv_has ls 5 [(0, .ref a0), (1, .int (iI x1)), (2, .int (iI x2)), (3, .int (iI y3_37)), (4, .int (iI y4_37))]), W p l e ({ frames := 2, cells := 0, slots := 0, locals := 42 } : Room) s m ([.ref a0, .int (iI x1), .int (iI x2)] : List Value).toArray below meth c H locs (0) (0) (MQ below (Qi D (tq cy) L0 f0 s.heap.size (fun (r : Int) (L1 : List Nat) (f1 : Nat → va_E) => L0 = L1 ∧ GI cy L0 f1 ∧ Ex cy f0 f1 ∧ ((okN Tt nn ee ∧ x1 ≤ vN Tt nn ee ∧ vN Tt nn ee ≤ x2 ∧ r = vN Tt nn ee ∧ OA f0 f1 a0 ∧ K5 f0 f1 a0 ∧ RT Tt nn f1 a0 tp ∧ RS Tt nn f1 a0 (tQ Tt nn ee)) ∨ (¬ okN Tt nn ee ∧ r = -1 ∧ OA f0 f1 a0 ∧ fI f1 a0 5 = 8 * tP Tt nn ee + 1) ∨ (okN Tt nn ee ∧ (vN Tt nn ee < x1 ∨ x2 < vN Tt nn ee) ∧ r = -1 ∧ OA f0 f1 a0 ∧ fI f1 a0 5 = 8 * tP Tt nn ee + 2)))) ([.ref a0, .int (iI x1), .int (iI x2)] : List Value).toArray s 0 0 A) (F0 m 37 ls []) := by
        intro n37
        induction n37 with
        | zero => intro y3_37 ly3_37 uy3_37 y4_37 ly4_37 uy4_37 i1 i2 v1 v2 hn37; exact absurd hn37 (Nat.not_lt_zero _)
        | succ n37 ih37 =>
          intro y3_37 ly3_37 uy3_37 y4_37 ly4_37 uy4_37 i1 i2 v1 v2 hn37 H locs ls hw hl
          have v3 := v2
          unfold DG at v3
          refine lv_iload hx hb dX5_takeNumber_37 (lv_at hl 4 rfl) ?_
          refine lv_aload_n hx hb dX5_takeNumber_39 rfl (lv_at hl 0 rfl) ?_
          refine q_geti (ci := 4) (C := RX5) (T := TX5) (N := 10) hx hb hts (fun w h => List.mem_cons_of_mem _ (mfX50 w h)) hown hK hw m_a0 o_a0 rfl 4 (by decide) (hts _ (List.mem_cons_of_mem _ (mr6 _ (List.mem_of_getElem? (i := 5) rfl)))) (fun _ h => h) rfl dX5_takeNumber_40 (fun x_8 lx_8 ux_8 ex_8 => ?_)
          have bx_8 : 0 ≤ x_8 ∧ x_8 ≤ 168 := by rw [ex_8]; exact hg.1 _ m_a0 4 4 o_a0
          refine q_icmp_ge (tgt := 68) hx hb dX5_takeNumber_43 (by decide) ⟨ly4_37, uy4_37⟩ ⟨lx_8, ux_8⟩ (fun c43 => ?_) (fun c43 => ?_)
          · have vv : vN Tt nn ee = y3_37 := (congrArg (nv Tt (tP Tt nn ee)) (show tQ Tt nn ee = y4_37 by omega)).trans v1.symm
            refine lv_iload_n hx hb dX5_takeNumber_68 rfl (lv_at hl 3 rfl) ?_
            refine lv_iload_n hx hb dX5_takeNumber_69 rfl (lv_at hl 1 rfl) ?_
            refine q_icmp_lt (tgt := 78) hx hb dX5_takeNumber_70 (by decide) ⟨ly3_37, uy3_37⟩ ⟨lx1, ux1⟩ (fun c70 => ?_) (fun c70 => ?_)
            · refine lv_aload_n hx hb dX5_takeNumber_78 rfl (lv_at hl 0 rfl) ?_
              refine q_iconst hx hb dX5_takeNumber_79 ?_
              refine q_call_i hA hK hw (va_runV (As := [.int (iI 2)]) (rest := []) ⟨hx, hb, hml, hown, hts⟩ (c_X5_refuse_p zo l D cy L0 f0 a0 2 (by decide) (by decide) m_a0 o_a0 hg (by omega) (by omega) (by omega) (by omega) _) (cwV 1 hts (gT (inV (mr10 _ (List.mem_of_getElem? (i := 6) rfl)) (mr10 _ (List.mem_of_getElem? (i := 7) rfl)) (mr10 _ (List.mem_of_getElem? (i := 8) rfl)) (mr5 _ (List.mem_of_getElem? (i := 18) rfl)) (mr10 _ (List.mem_of_getElem? (i := 9) rfl)))) rfl rfl rfl (by decide +kernel) ⟨Nat.le_of_ble_eq_true rfl, Nat.le_of_ble_eq_true rfl⟩) (Wd.preV zo hA hZ hw hK m_a0 o_a0 rfl) rfl rfl hl.1 rfl (lv_room (Nat.le_of_ble_eq_true rfl)) dX5_takeNumber_80 ⟨Nat.le_of_ble_eq_true rfl, Nat.le_of_ble_eq_true rfl⟩) (fun x_9 L1 f_10 H locs lx_9 ux_9 ex_9 hw => ?_)
              obtain ⟨rfl, hg, hX, ex_9⟩ := ex_9
              have hE := hE.trans hX
              have o_a0 := hX.1.1 _ _ o_a0
              have t80 := ex_9
              refine lv_pop hx hb dX5_takeNumber_83 rfl ?_
              refine q_iconst hx hb dX5_takeNumber_84 ?_
              exact q_ret_i hx hb hr hlocks hK hAe hw ⟨by decide, by decide⟩ (Nat.le_of_ble_eq_true rfl) (Nat.le_of_ble_eq_true rfl) dX5_takeNumber_85 (by exact ⟨rfl, hg, hE, Or.inr (Or.inr ⟨⟨by omega, by omega⟩, by omega, by omega, t80.2.1, by omega⟩)⟩)
            · refine lv_iload_n hx hb dX5_takeNumber_73 rfl (lv_at hl 3 rfl) ?_
              refine lv_iload_n hx hb dX5_takeNumber_74 rfl (lv_at hl 2 rfl) ?_
              refine q_icmp_le (tgt := 86) hx hb dX5_takeNumber_75 (by decide) ⟨ly3_37, uy3_37⟩ ⟨lx2, ux2⟩ (fun c75 => ?_) (fun c75 => ?_)
              · refine lv_aload_n hx hb dX5_takeNumber_86 rfl (lv_at hl 0 rfl) ?_
                refine q_call_v hA hK hw (va_runV (As := []) (rest := []) ⟨hx, hb, hml, hown, hts⟩ (c_X5_step_p zo l D cy L0 f0 a0 m_a0 o_a0 hg Tt nn tp rt (by omega) (by omega) _) (cwV 0 hts (gT (inV (mr7 _ (List.mem_of_getElem? (i := 2) rfl)) (mr7 _ (List.mem_of_getElem? (i := 3) rfl)) (mr7 _ (List.mem_of_getElem? (i := 4) rfl)) (mr5 _ (List.mem_of_getElem? (i := 18) rfl)) (mr7 _ (List.mem_of_getElem? (i := 5) rfl)))) rfl rfl rfl (by decide +kernel) ⟨Nat.le_of_ble_eq_true rfl, Nat.le_of_ble_eq_true rfl⟩) (Wd.preV zo hA hZ hw hK m_a0 o_a0 rfl) rfl rfl hl.1 rfl (lv_room (Nat.le_of_ble_eq_true rfl)) dX5_takeNumber_87 ⟨Nat.le_of_ble_eq_true rfl, Nat.le_of_ble_eq_true rfl⟩) (fun L1 f_12 H locs ex_11 hw => ?_)
                obtain ⟨rfl, hg, hX, ex_11⟩ := ex_11
                have hE := hE.trans hX
                have o_a0 := hX.1.1 _ _ o_a0
                have n9 := ex_11
                rw [rs3] at n9
                refine lv_iload_n hx hb dX5_takeNumber_90 rfl (lv_at hl 3 rfl) ?_
                exact q_ret_i hx hb hr hlocks hK hAe hw ⟨ly3_37, uy3_37⟩ (Nat.le_of_ble_eq_true rfl) (Nat.le_of_ble_eq_true rfl) dX5_takeNumber_91 (by exact ⟨rfl, hg, hE, Or.inl ⟨⟨by omega, by omega⟩, by omega, by omega, by omega, n9.1, n9.2.1, n9.2.2.1, n9.2.2.2⟩⟩)
              · refine lv_aload_n hx hb dX5_takeNumber_78 rfl (lv_at hl 0 rfl) ?_
                refine q_iconst hx hb dX5_takeNumber_79 ?_
                refine q_call_i hA hK hw (va_runV (As := [.int (iI 2)]) (rest := []) ⟨hx, hb, hml, hown, hts⟩ (c_X5_refuse_p zo l D cy L0 f0 a0 2 (by decide) (by decide) m_a0 o_a0 hg (by omega) (by omega) (by omega) (by omega) _) (cwV 1 hts (gT (inV (mr10 _ (List.mem_of_getElem? (i := 6) rfl)) (mr10 _ (List.mem_of_getElem? (i := 7) rfl)) (mr10 _ (List.mem_of_getElem? (i := 8) rfl)) (mr5 _ (List.mem_of_getElem? (i := 18) rfl)) (mr10 _ (List.mem_of_getElem? (i := 9) rfl)))) rfl rfl rfl (by decide +kernel) ⟨Nat.le_of_ble_eq_true rfl, Nat.le_of_ble_eq_true rfl⟩) (Wd.preV zo hA hZ hw hK m_a0 o_a0 rfl) rfl rfl hl.1 rfl (lv_room (Nat.le_of_ble_eq_true rfl)) dX5_takeNumber_80 ⟨Nat.le_of_ble_eq_true rfl, Nat.le_of_ble_eq_true rfl⟩) (fun x_13 L1 f_14 H locs lx_13 ux_13 ex_13 hw => ?_)
                obtain ⟨rfl, hg, hX, ex_13⟩ := ex_13
                have hE := hE.trans hX
                have o_a0 := hX.1.1 _ _ o_a0
                have t80 := ex_13
                refine lv_pop hx hb dX5_takeNumber_83 rfl ?_
                refine q_iconst hx hb dX5_takeNumber_84 ?_
                exact q_ret_i hx hb hr hlocks hK hAe hw ⟨by decide, by decide⟩ (Nat.le_of_ble_eq_true rfl) (Nat.le_of_ble_eq_true rfl) dX5_takeNumber_85 (by exact ⟨rfl, hg, hE, Or.inr (Or.inr ⟨⟨by omega, by omega⟩, by omega, by omega, t80.2.1, by omega⟩)⟩)
          · refine q_bipush hx hb dX5_takeNumber_46 rfl ?_
            refine lv_iload_n hx hb dX5_takeNumber_48 rfl (lv_at hl 3 rfl) ?_
            first | refine q_imul hx hb dX5_takeNumber_49 ⟨by omega, by omega⟩ (fun x_15 lx_15 ux_15 ex_15 => ?_) | refine q_imulw hx hb dX5_takeNumber_49 (fun x_15 lx_15 ux_15 _ => ?_)
            refine lv_aload_n hx hb dX5_takeNumber_50 rfl (lv_at hl 0 rfl) ?_
            obtain ⟨r_16, er_16, m_r_16, o_r_16⟩ := (show ∃ r, fR f0 a0 0 = some r ∧ r ∈ L0 ∧ ArI f0 r cy.1 168 from hg.2.1 _ m_a0 4 0 o_a0)
            refine q_getr (ci := 4) (C := RX5) (T := TX5) (N := 10) hx hb hts (fun w h => List.mem_cons_of_mem _ (mfX50 w h)) hown hK hw m_a0 o_a0 rfl 0 (by decide) (hts _ (List.mem_cons_of_mem _ (mr6 _ (List.mem_of_getElem? (i := 11) rfl)))) (fun _ h => h) rfl er_16 dX5_takeNumber_51 ?_
            have t51 := er_16
            refine lv_iload hx hb dX5_takeNumber_54 (lv_at hl 4 rfl) ?_
            refine q_chld hx hb hK hw m_r_16 0 o_r_16 rfl ⟨ly4_37, uy4_37⟩ (by omega) (by omega) dX5_takeNumber_56 (fun x_17 lx_17 ux_17 ex_17 => ?_)
            have t56 := rt.at t51 ex_17 (by omega) (by omega)
            have d56 := dig (T := Tt) e1 (by omega) (i := y4_37) (by omega) (by omega)
            first | refine q_iadd hx hb dX5_takeNumber_57 ⟨by omega, by omega⟩ (fun x_18 lx_18 ux_18 ex_18 => ?_) | refine q_iaddw hx hb dX5_takeNumber_57 (fun x_18 lx_18 ux_18 _ => ?_)
            refine q_bipush hx hb dX5_takeNumber_58 rfl ?_
            first | refine q_isub hx hb dX5_takeNumber_60 ⟨by omega, by omega⟩ (fun x_19 lx_19 ux_19 ex_19 => ?_) | refine q_isubw hx hb dX5_takeNumber_60 (fun x_19 lx_19 ux_19 _ => ?_)
            refine lv_istore_n (lv' := [(3, .int (iI x_19)), (0, .ref a0), (1, .int (iI x1)), (2, .int (iI x2)), (4, .int (iI y4_37))]) hx hb dX5_takeNumber_61 rfl hl (by decide) rfl (fun ls hl => ?_)
            obtain ⟨x_20, lx_20, ux_20, hx_20, ex_20⟩ := q_inc y4_37 (1)
            try (replace ex_20 : x_20 = y4_37 + (1) := by omega)
            refine lv_iinc (v := iI x_20) (lv' := [(4, .int (iI x_20)), (3, .int (iI x_19)), (0, .ref a0), (1, .int (iI x1)), (2, .int (iI x2))]) hx hb dX5_takeNumber_62 hl (k := 4) rfl hx_20 (by decide) rfl (fun ls hl => ?_)
            refine lv_goto (tgt := 37) hx hb dX5_takeNumber_65 (by decide) ?_
            exact ih37 x_19 lx_19 ux_19 x_20 lx_20 ux_20 (by omega) (by omega) (by first | exact (nv_0 (by omega)).symm | exact nv_st v1 (by omega) t56 (by omega) (by omega)) (by unfold DG; omega) (by omega) _ _ _ hw (lv_sub hl [2, 3, 4, 1, 0] rfl)
      exact J37 ((((2147483647 : Int) - x_7).toNat) + 1) 0 (by decide) (by decide) x_7 lx_7 ux_7 (by omega) (by omega) (by first | exact (nv_0 (by omega)).symm | exact nv_st v1 (by omega) t56 (by omega) (by omega)) (by unfold DG; omega) (by omega) _ _ _ hw (lv_sub hl [2, 3, 4, 1, 0] rfl)
    · refine lv_aload_n hx hb dX5_takeNumber_21 rfl (lv_at hl 0 rfl) ?_
      refine q_iconst hx hb dX5_takeNumber_22 ?_
      refine q_call_i hA hK hw (va_runV (As := [.int (iI 1)]) (rest := []) ⟨hx, hb, hml, hown, hts⟩ (c_X5_refuse_p zo l D cy L0 f0 a0 1 (by decide) (by decide) m_a0 o_a0 hg (by omega) (by omega) (by omega) (by omega) _) (cwV 1 hts (gT (inV (mr10 _ (List.mem_of_getElem? (i := 6) rfl)) (mr10 _ (List.mem_of_getElem? (i := 7) rfl)) (mr10 _ (List.mem_of_getElem? (i := 8) rfl)) (mr5 _ (List.mem_of_getElem? (i := 18) rfl)) (mr10 _ (List.mem_of_getElem? (i := 9) rfl)))) rfl rfl rfl (by decide +kernel) ⟨Nat.le_of_ble_eq_true rfl, Nat.le_of_ble_eq_true rfl⟩) (Wd.preV zo hA hZ hw hK m_a0 o_a0 rfl) rfl rfl hl.1 rfl (lv_room (Nat.le_of_ble_eq_true rfl)) dX5_takeNumber_23 ⟨Nat.le_of_ble_eq_true rfl, Nat.le_of_ble_eq_true rfl⟩) (fun x_21 L1 f_22 H locs lx_21 ux_21 ex_21 hw => ?_)
      obtain ⟨rfl, hg, hX, ex_21⟩ := ex_21
      have hE := hE.trans hX
      have o_a0 := hX.1.1 _ _ o_a0
      have t23 := ex_21
      refine lv_pop hx hb dX5_takeNumber_26 rfl ?_
      refine q_iconst hx hb dX5_takeNumber_27 ?_
      exact q_ret_i hx hb hr hlocks hK hAe hw ⟨by decide, by decide⟩ (Nat.le_of_ble_eq_true rfl) (Nat.le_of_ble_eq_true rfl) dX5_takeNumber_28 (by exact ⟨rfl, hg, hE, Or.inr (Or.inl ⟨fun z => by have z1 := z.1; have z2 := z.2; omega, by omega, t23.2.1, by omega⟩)⟩)
set_option maxHeartbeats 4000000 in
set_option maxRecDepth 100000 in
theorem c_X5_weekdayHere_p {Z : Zt} (zo : Zok Z) (l : Launch) (D : va_G) (cy : Cy) (L0 : List Nat) (f0 : Nat → va_E) (a0 : Nat) (m_a0 : a0 ∈ L0) (o_a0 : Ob f0 a0 4) (hg : GI cy L0 f0) (Tt : Int → Int) (nn : Int) (tp : Nat) (rt : RT Tt nn f0 a0 tp) (ee : Int) (rs : RS Tt nn f0 a0 ee) (e0 : 0 ≤ ee) (e1 : ee ≤ nn) : Ci Z l yX5_weekdayHere (Cond.code yX5_weekdayHere cX5_weekdayHere 2 (some .int) :: TB) ({ frames := 5, cells := 0, slots := 0, locals := 109 } : Room) 0 0 D (tq cy) [.ref a0] L0 f0 (fun (r : Int) (L1 : List Nat) (f1 : Nat → va_E) => L0 = L1 ∧ f0 = f1 ∧ (WD Tt nn ee r)) := by
  refine Ci.enter (cc := cX5_weekdayHere) (n := 2) rfl (plainFor_of_name (by decide)) (Nat.le_of_ble_eq_true rfl) ?_
  intro p e s m below meth c ls A hx hb hr hts hown hlocks hnm hml hK hA hAe hw hZ hl
  have hown : s.vm.findClass RX5 = some m.cls := hown
  have hl : lv_has ls 2 [(0, .ref a0)] := hl
  have hN : ZN s := (zo.2.2.2.2 _ _ _ hZ).2
  have nb0 := rt.2.2.1
  have nb1 := rt.2.2.2.1
  have rs1 := rs.1
  have rs2 := rs.2.1
  have rs3 := rs.2.2
  have pb := tP_b (T := Tt) e1
  have qb := tQ_b (T := Tt) e1
  refine lv_aload_n hx hb dX5_weekdayHere_0 rfl (lv_at hl 0 rfl) ?_
  refine q_geti (ci := 4) (C := RX5) (T := TX5) (N := 10) hx hb hts (fun w h => List.mem_cons_of_mem _ (mfX50 w h)) hown hK hw m_a0 o_a0 rfl 2 (by decide) (hts _ (List.mem_cons_of_mem _ (mr6 _ (List.mem_of_getElem? (i := 3) rfl)))) (fun _ h => h) rfl dX5_weekdayHere_1 (fun x_1 lx_1 ux_1 ex_1 => ?_)
  refine q_iconst hx hb dX5_weekdayHere_4 ?_
  refine q_icmp_ne (tgt := 21) hx hb dX5_weekdayHere_5 (by decide) ⟨lx_1, ux_1⟩ ⟨by decide, by decide⟩ (fun c5 => ?_) (fun c5 => ?_)
  · refine q_iconst hx hb dX5_weekdayHere_21 ?_
    exact q_ret_i hx hb hr hlocks hK hAe hw ⟨by decide, by decide⟩ (Nat.le_of_ble_eq_true rfl) (Nat.le_of_ble_eq_true rfl) dX5_weekdayHere_22 ⟨rfl, rfl, by exact WD.no (by omega)⟩
  · refine lv_aload_n hx hb dX5_weekdayHere_8 rfl (lv_at hl 0 rfl) ?_
    refine q_geti (ci := 4) (C := RX5) (T := TX5) (N := 10) hx hb hts (fun w h => List.mem_cons_of_mem _ (mfX50 w h)) hown hK hw m_a0 o_a0 rfl 4 (by decide) (hts _ (List.mem_cons_of_mem _ (mr6 _ (List.mem_of_getElem? (i := 5) rfl)))) (fun _ h => h) rfl dX5_weekdayHere_9 (fun x_2 lx_2 ux_2 ex_2 => ?_)
    have bx_2 : 0 ≤ x_2 ∧ x_2 ≤ 168 := by rw [ex_2]; exact hg.1 _ m_a0 4 4 o_a0
    refine lv_aload_n hx hb dX5_weekdayHere_12 rfl (lv_at hl 0 rfl) ?_
    refine q_geti (ci := 4) (C := RX5) (T := TX5) (N := 10) hx hb hts (fun w h => List.mem_cons_of_mem _ (mfX50 w h)) hown hK hw m_a0 o_a0 rfl 3 (by decide) (hts _ (List.mem_cons_of_mem _ (mr6 _ (List.mem_of_getElem? (i := 4) rfl)))) (fun _ h => h) rfl dX5_weekdayHere_13 (fun x_3 lx_3 ux_3 ex_3 => ?_)
    have bx_3 : 0 ≤ x_3 ∧ x_3 ≤ 168 := by rw [ex_3]; exact hg.1 _ m_a0 4 3 o_a0
    first | refine q_isub hx hb dX5_weekdayHere_16 ⟨by omega, by omega⟩ (fun x_4 lx_4 ux_4 ex_4 => ?_) | refine q_isubw hx hb dX5_weekdayHere_16 (fun x_4 lx_4 ux_4 _ => ?_)
    refine q_iconst hx hb dX5_weekdayHere_17 ?_
    refine q_icmp_eq (tgt := 23) hx hb dX5_weekdayHere_18 (by decide) ⟨lx_4, ux_4⟩ ⟨by decide, by decide⟩ (fun c18 => ?_) (fun c18 => ?_)
    · refine q_iconst hx hb dX5_weekdayHere_23 ?_
      refine lv_istore_n (lv' := [(1, .int (iI 0)), (0, .ref a0)]) hx hb dX5_weekdayHere_24 rfl hl (by decide) rfl (fun ls hl => ?_)
      have J25 : ∀ (n25 : Nat) (y1_25 : Int) (ly1_25 : -2147483648 ≤ y1_25) (uy1_25 : y1_25 ≤ 2147483647) (i1 : 0 ≤ y1_25) (i3 : y1_25 ≤ 7) (i2 : ∀ i : Int, 0 ≤ i → i < y1_25 → ¬ isW Tt nn ee (wdB i)) (hn25 : ((2147483647 : Int) - y1_25).toNat < n25) (H : Heap) (locs : List Loc) (ls : Array Slot) (hw : Wd D A s.heap L0 f0 H locs) (hl : lv_has ls 2 [(0, .ref a0), (1, .int (iI y1_25))]), W p l e ({ frames := 5, cells := 0, slots := 0, locals := 109 } : Room) s m ([.ref a0] : List Value).toArray below meth c H locs (0) (0) (MQ below (Qi D (tq cy) L0 f0 s.heap.size (fun (r : Int) (L1 : List Nat) (f1 : Nat → va_E) => L0 = L1 ∧ f0 = f1 ∧ (WD Tt nn ee r))) ([.ref a0] : List Value).toArray s 0 0 A) (F0 m 25 ls []) := by
        intro n25
        induction n25 with
        | zero => intro y1_25 ly1_25 uy1_25 i1 i3 i2 hn25; exact absurd hn25 (Nat.not_lt_zero _)
        | succ n25 ih25 =>
          intro y1_25 ly1_25 uy1_25 i1 i3 i2 hn25 H locs ls hw hl
          refine lv_iload_n hx hb dX5_weekdayHere_25 rfl (lv_at hl 1 rfl) ?_
          refine q_bipush hx hb dX5_weekdayHere_26 rfl ?_
          refine q_icmp_ge (tgt := 51) hx hb dX5_weekdayHere_28 (by decide) ⟨ly1_25, uy1_25⟩ ⟨by decide, by decide⟩ (fun c28 => ?_) (fun c28 => ?_)
          · refine q_iconst hx hb dX5_weekdayHere_51 ?_
            exact q_ret_i hx hb hr hlocks hK hAe hw ⟨by decide, by decide⟩ (Nat.le_of_ble_eq_true rfl) (Nat.le_of_ble_eq_true rfl) dX5_weekdayHere_52 ⟨rfl, rfl, by exact Or.inr ⟨by omega, fun i q0 q1 => i2 i q0 (by omega)⟩⟩
          · refine lv_aload_n hx hb dX5_weekdayHere_31 rfl (lv_at hl 0 rfl) ?_
            obtain ⟨t_5, v_t_5, h_t_5⟩ : ∃ q v : Nat, ∀ (A : Nat → Prop) (U : State) (H : Heap), Z A U H → vk_R RX5 192 "montuewedthufrisatsun" q U ∧ Tx [109, 111, 110, 116, 117, 101, 119, 101, 100, 116, 104, 117, 102, 114, 105, 115, 97, 116, 115, 117, 110] q v A U H := ztx_17 zo
            obtain ⟨b_t_5, eb_t_5⟩ : ∃ b : List Int32, b = [109, 111, 110, 116, 117, 101, 119, 101, 100, 116, 104, 117, 102, 114, 105, 115, 97, 116, 115, 117, 110] := ⟨_, rfl⟩
            have nb_t_5 : Asc b_t_5 := by rw [eb_t_5]; exact ⟨by decide, by decide +kernel⟩
            have tx_t_5 : ∀ (A : Nat → Prop) (U : State) (H : Heap), Z A U H → Tx b_t_5 t_5 v_t_5 A U H := fun A U H h => by rw [eb_t_5]; exact (h_t_5 A U H h).2
            refine va_ldcS hx hb hown (h_t_5 _ _ _ hZ).1 dX5_weekdayHere_32 ?_
            have ebW : b_t_5 = WK := eb_t_5
            refine q_iconst hx hb dX5_weekdayHere_34 ?_
            refine lv_iload_n hx hb dX5_weekdayHere_35 rfl (lv_at hl 1 rfl) ?_
            first | refine q_imul hx hb dX5_weekdayHere_36 ⟨by omega, by omega⟩ (fun x_6 lx_6 ux_6 ex_6 => ?_) | refine q_imulw hx hb dX5_weekdayHere_36 (fun x_6 lx_6 ux_6 _ => ?_)
            refine q_call_i hA hK hw (va_runV (As := [.ref t_5, .int (iI x_6)]) (rest := []) ⟨hx, hb, hml, hown, hts⟩ (c_X5_standsHere_p zo l D cy L0 f0 a0 t_5 x_6 lx_6 ux_6 m_a0 o_a0 b_t_5 v_t_5 nb_t_5 tx_t_5 hg Tt nn tp rt (by omega) (by omega) (by omega) (by omega) _) (cwV 2 hts (gT (inV (mr8 _ (List.mem_of_getElem? (i := 13) rfl)) (mr8 _ (List.mem_of_getElem? (i := 14) rfl)) (mr8 _ (List.mem_of_getElem? (i := 15) rfl)) (mr5 _ (List.mem_of_getElem? (i := 18) rfl)) (mr8 _ (List.mem_of_getElem? (i := 16) rfl)))) rfl rfl rfl (by decide +kernel) ⟨Nat.le_of_ble_eq_true rfl, Nat.le_of_ble_eq_true rfl⟩) (Wd.preV zo hA hZ hw hK m_a0 o_a0 rfl) rfl rfl hl.1 rfl (lv_room (Nat.le_of_ble_eq_true rfl)) dX5_weekdayHere_37 ⟨Nat.le_of_ble_eq_true rfl, Nat.le_of_ble_eq_true rfl⟩) (fun x_7 L1 f1 H locs lx_7 ux_7 ex_7 hw => ?_)
            obtain ⟨rfl, rfl, ex_7⟩ := ex_7
            have t37 := ex_7
            rw [rs2, rs3, ebW] at t37
            have w37 := sh_wd (T := Tt) (n := nn) (e := ee) (i := y1_25) (by omega) (by omega) (by omega) (by omega)
            rw [show x_6 = 3 * y1_25 by omega] at t37
            refine q_if_eq (tgt := 45) hx hb dX5_weekdayHere_40 (by decide) ⟨lx_7, ux_7⟩ (fun c40 => ?_) (fun c40 => ?_)
            · obtain ⟨x_8, lx_8, ux_8, hx_8, ex_8⟩ := q_inc y1_25 (1)
              try (replace ex_8 : x_8 = y1_25 + (1) := by omega)
              refine lv_iinc (v := iI x_8) (lv' := [(1, .int (iI x_8)), (0, .ref a0)]) hx hb dX5_weekdayHere_45 hl (k := 1) rfl hx_8 (by decide) rfl (fun ls hl => ?_)
              refine lv_goto (tgt := 25) hx hb dX5_weekdayHere_48 (by decide) ?_
              exact ih25 x_8 lx_8 ux_8 (by omega) (by omega) (by first | exact fun i q0 q1 => absurd q1 (by omega) | exact fun i q0 q1 => (Int.lt_or_le i y1_25).elim (fun q => i2 i q0 q) (fun q => by rw [show i = y1_25 by omega]; exact fun z => (t37.resolve_left (by omega)).2 (w37.mpr z))) (by omega) _ _ _ hw (lv_sub hl [1, 0] rfl)
            · refine lv_iload_n hx hb dX5_weekdayHere_43 rfl (lv_at hl 1 rfl) ?_
              exact q_ret_i hx hb hr hlocks hK hAe hw ⟨ly1_25, uy1_25⟩ (Nat.le_of_ble_eq_true rfl) (Nat.le_of_ble_eq_true rfl) dX5_weekdayHere_44 ⟨rfl, rfl, by exact Or.inl ⟨by omega, by omega, w37.mp (t37.resolve_right (by omega)).2⟩⟩
      exact J25 ((((2147483647 : Int) - 0).toNat) + 1) 0 (by decide) (by decide) (by omega) (by omega) (by first | exact fun i q0 q1 => absurd q1 (by omega) | exact fun i q0 q1 => (Int.lt_or_le i y1_25).elim (fun q => i2 i q0 q) (fun q => by rw [show i = y1_25 by omega]; exact fun z => (t37.resolve_left (by omega)).2 (w37.mpr z))) (by omega) _ _ _ hw (lv_sub hl [1, 0] rfl)
    · refine q_iconst hx hb dX5_weekdayHere_21 ?_
      exact q_ret_i hx hb hr hlocks hK hAe hw ⟨by decide, by decide⟩ (Nat.le_of_ble_eq_true rfl) (Nat.le_of_ble_eq_true rfl) dX5_weekdayHere_22 ⟨rfl, rfl, by exact WD.no (by omega)⟩
/-! ===== the text's grammar: faults (0: none), values, places ===== -/
noncomputable def wS (T : Int → Int) (n e : Int) (b : List Int32) : Int := @ite Int (isW T n e b) (Classical.propDecidable _) 0 (8 * tP T n e + 1)
theorem wS_0 {T : Int → Int} {n e : Int} {b : List Int32} (h : isW T n e b) : wS T n e b = 0 := if_pos h
theorem wS_1 {T : Int → Int} {n e : Int} {b : List Int32} (h : ¬ isW T n e b) : wS T n e b = 8 * tP T n e + 1 := if_neg h
theorem wS_b {T : Int → Int} {n e : Int} {b : List Int32} (h0 : 0 ≤ e) (h1 : e ≤ n) : wS T n e b = 0 ∨ wS T n e b = 8 * tP T n e + 1 ∧ 1 ≤ wS T n e b := by
  have := tP_b (T := T) h1
  rcases Classical.em (isW T n e b) with c | c
  · exact Or.inl (wS_0 c)
  · rw [wS_1 c]; omega
def nS (T : Int → Int) (n e lo hi : Int) : Int := if tyA T n (tP T n e) = 2 ∧ tQ T n e - tP T n e ≤ 4 then (if lo ≤ vN T n e ∧ vN T n e ≤ hi then 0 else 8 * tP T n e + 2) else 8 * tP T n e + 1
theorem nS_of {T : Int → Int} {n e lo hi : Int} : (okN T n e ∧ lo ≤ vN T n e ∧ vN T n e ≤ hi → nS T n e lo hi = 0) ∧ (¬ okN T n e → nS T n e lo hi = 8 * tP T n e + 1) ∧ (okN T n e ∧ (vN T n e < lo ∨ hi < vN T n e) → nS T n e lo hi = 8 * tP T n e + 2) := by
  unfold nS okN
  refine ⟨fun h => ?_, fun h => ?_, fun h => ?_⟩
  · rw [if_pos h.1, if_pos h.2]
  · rw [if_neg h]
  · rw [if_pos h.1, if_neg (by omega)]
theorem nS_b {T : Int → Int} {n e lo hi : Int} (h0 : 0 ≤ e) (h1 : e ≤ n) : 0 ≤ nS T n e lo hi ∧ (nS T n e lo hi = 0 → lo ≤ vN T n e ∧ vN T n e ≤ hi) := by
  have := tP_b (T := T) h1
  unfold nS
  split
  · split
    · exact ⟨by omega, fun _ => by assumption⟩
    · exact ⟨by omega, fun h => by omega⟩
  · exact ⟨by omega, fun h => by omega⟩
def tQn (T : Int → Int) (n : Int) : Nat → Int → Int
  | 0, e => e
  | k + 1, e => tQ T n (tQn T n k e)
theorem tQn_b {T : Int → Int} {n e : Int} (h0 : 0 ≤ e) (h1 : e ≤ n) (k : Nat) : 0 ≤ tQn T n k e ∧ tQn T n k e ≤ n := by
  induction k with
  | zero => exact ⟨h0, h1⟩
  | succ k ih =>
    have a := tP_b (T := T) ih.2
    have b := tQ_b (T := T) ih.2
    show 0 ≤ tQ T n (tQn T n k e) ∧ tQ T n (tQn T n k e) ≤ n
    omega
def wBook : List Int32 := [98, 111, 111, 107]
def wAt : List Int32 := [97, 116]
def wFor : List Int32 := [102, 111, 114]
def wOnce : List Int32 := [111, 110, 99, 101]
def wEvery : List Int32 := [101, 118, 101, 114, 121]
def wDays : List Int32 := [100, 97, 121, 115]
def wYears : List Int32 := [121, 101, 97, 114, 115]
def wWeeks : List Int32 := [119, 101, 101, 107, 115]
def wMonths : List Int32 := [109, 111, 110, 116, 104, 115]
def wOn : List Int32 := [111, 110]
def wEnd : List Int32 := [101, 110, 100]
def wNth : List Int32 := [110, 116, 104]
def wLast : List Int32 := [108, 97, 115, 116]
def wFrom : List Int32 := [102, 114, 111, 109]
def wTimes : List Int32 := [116, 105, 109, 101, 115]
def wUntil : List Int32 := [117, 110, 116, 105, 108]
/-- room, minute, length: the fault -/
noncomputable def plF (T : Int → Int) (n e : Int) : Int :=
  if wS T n e wBook ≠ 0 then wS T n e wBook else if nS T n (tQn T n 1 e) 0 7 ≠ 0 then nS T n (tQn T n 1 e) 0 7 else
  if wS T n (tQn T n 2 e) wAt ≠ 0 then wS T n (tQn T n 2 e) wAt else if nS T n (tQn T n 3 e) 0 1439 ≠ 0 then nS T n (tQn T n 3 e) 0 1439 else
  if wS T n (tQn T n 4 e) wFor ≠ 0 then wS T n (tQn T n 4 e) wFor else nS T n (tQn T n 5 e) 1 4320
/-- the weekday that is told; -1: none -/
noncomputable def wdv (T : Int → Int) (n e : Int) : Int := if wS T n e (wdB 0) = 0 then 0 else if wS T n e (wdB 1) = 0 then 1 else if wS T n e (wdB 2) = 0 then 2 else if wS T n e (wdB 3) = 0 then 3 else if wS T n e (wdB 4) = 0 then 4 else if wS T n e (wdB 5) = 0 then 5 else if wS T n e (wdB 6) = 0 then 6 else -1
theorem wdB_inj : ∀ i : Nat, i < 7 → ∀ j : Nat, j < 7 → (∀ k : Nat, k < 3 → (wdB (i : Int)).getD k 0 = (wdB (j : Int)).getD k 0) → i = j := by decide +kernel
theorem isW_wd {T : Int → Int} {n e i j : Int} (i0 : 0 ≤ i) (i1 : i ≤ 6) (j0 : 0 ≤ j) (j1 : j ≤ 6) (h : isW T n e (wdB i)) (g : isW T n e (wdB j)) : i = j := by
  have := wdB_inj i.toNat (by omega) j.toNat (by omega) (fun k hk => by
    have a := h.2.2 (k : Int) (by omega) (by rw [wdB_l i0 i1]; omega)
    have b := g.2.2 (k : Int) (by omega) (by rw [wdB_l j0 j1]; omega)
    rw [show ((i.toNat : Nat) : Int) = i by omega, show ((j.toNat : Nat) : Int) = j by omega]
    rw [show ((k : Int)).toNat = k by omega] at a b
    exact Int32.toInt_inj.mp (a.symm.trans b))
  omega
theorem wS_iff {T : Int → Int} {n e : Int} {b : List Int32} (h0 : 0 ≤ e) (h1 : e ≤ n) : wS T n e b = 0 ↔ isW T n e b := by
  have := tP_b (T := T) h1
  refine ⟨fun h => ?_, wS_0⟩
  rcases Classical.em (isW T n e b) with c | c
  · exact c
  · rw [wS_1 c] at h; omega
theorem WD.v {T : Int → Int} {n e r : Int} (h0 : 0 ≤ e) (h1 : e ≤ n) (h : WD T n e r) : r = wdv T n e := by
  have I := fun b => wS_iff (T := T) (n := n) (e := e) (b := b) h0 h1
  unfold wdv
  rcases h with ⟨r0, r1, w⟩ | ⟨r0, w⟩
  · have no : ∀ j : Int, 0 ≤ j → j ≤ 6 → j ≠ r → ¬ wS T n e (wdB j) = 0 := fun j j0 j1 jr z => jr (isW_wd j0 j1 r0 r1 ((I _).mp z) w)
    have yes : wS T n e (wdB r) = 0 := wS_0 w
    rcases (show r = 0 ∨ r = 1 ∨ r = 2 ∨ r = 3 ∨ r = 4 ∨ r = 5 ∨ r = 6 by omega) with q | q | q | q | q | q | q
    · subst q; rw [if_pos yes]
    · subst q; rw [if_neg (no 0 (by decide) (by decide) (by decide)), if_pos yes]
    · subst q; rw [if_neg (no 0 (by decide) (by decide) (by decide)), if_neg (no 1 (by decide) (by decide) (by decide)), if_pos yes]
    · subst q; rw [if_neg (no 0 (by decide) (by decide) (by decide)), if_neg (no 1 (by decide) (by decide) (by decide)), if_neg (no 2 (by decide) (by decide) (by decide)), if_pos yes]
    · subst q; rw [if_neg (no 0 (by decide) (by decide) (by decide)), if_neg (no 1 (by decide) (by decide) (by decide)), if_neg (no 2 (by decide) (by decide) (by decide)), if_neg (no 3 (by decide) (by decide) (by decide)), if_pos yes]
    · subst q; rw [if_neg (no 0 (by decide) (by decide) (by decide)), if_neg (no 1 (by decide) (by decide) (by decide)), if_neg (no 2 (by decide) (by decide) (by decide)), if_neg (no 3 (by decide) (by decide) (by decide)), if_neg (no 4 (by decide) (by decide) (by decide)), if_pos yes]
    · subst q; rw [if_neg (no 0 (by decide) (by decide) (by decide)), if_neg (no 1 (by decide) (by decide) (by decide)), if_neg (no 2 (by decide) (by decide) (by decide)), if_neg (no 3 (by decide) (by decide) (by decide)), if_neg (no 4 (by decide) (by decide) (by decide)), if_neg (no 5 (by decide) (by decide) (by decide)), if_pos yes]
  · have no : ∀ j : Int, 0 ≤ j → j ≤ 6 → ¬ wS T n e (wdB j) = 0 := fun j j0 j1 z => w j j0 j1 ((I _).mp z)
    rw [if_neg (no 0 (by decide) (by decide)), if_neg (no 1 (by decide) (by decide)), if_neg (no 2 (by decide) (by decide)), if_neg (no 3 (by decide) (by decide)), if_neg (no 4 (by decide) (by decide)), if_neg (no 5 (by decide) (by decide)), if_neg (no 6 (by decide) (by decide))]
    exact r0
theorem wdv_b (T : Int → Int) (n e : Int) : -1 ≤ wdv T n e ∧ wdv T n e ≤ 6 := by
  unfold wdv
  repeat' split
  all_goals omega
/-- two cells alone -/
def OB (f g : Nat → va_E) (a b : Nat) : Prop := ∀ y : Nat, y ≠ a → y ≠ b → g y = f y
theorem OB.refl (f : Nat → va_E) (a b : Nat) : OB f f a b := fun _ _ _ => rfl
theorem OB.oa {f g h : Nat → va_E} {a b : Nat} (x : OB f g a b) (y : OA g h a) : OB f h a b := fun z q r => (y z q).trans (x z q r)
theorem OB.put {f g h : Nat → va_E} {a b k : Nat} {v : Value} (x : OB f g a b) (e : h = pU g b k v) : OB f h a b := by rw [e]; exact fun z q r => (pU_ne r).trans (x z q r)
/-- another cell is put -/
theorem RT.other {T : Int → Int} {n : Int} {f g : Nat → va_E} {a b tp k ci : Nat} {v : Value} (h : RT T n f a tp) (o : Ob f b ci) (e : g = pU f b k v) (ne : a ≠ b) : RT T n g a tp := by
  obtain ⟨h1, h2, h3, h4, h5, h6⟩ := h
  rw [e]
  exact ⟨(fR_pU (Or.inl ne)).trans h1, (fI_pU (Or.inl ne)).trans h2, h3, h4, h5, fun i i0 i1 => (aI_pU o).trans (h6 i i0 i1)⟩
theorem RS.other {T : Int → Int} {n e : Int} {f g : Nat → va_E} {a b k : Nat} {v : Value} (h : RS T n f a e) (eg : g = pU f b k v) (ne : a ≠ b) : RS T n g a e := by
  rw [eg]
  exact ⟨(fI_pU (Or.inl ne)).trans h.1, (fI_pU (Or.inl ne)).trans h.2.1, (fI_pU (Or.inl ne)).trans h.2.2⟩
theorem K5.other {f0 f g : Nat → va_E} {a b k : Nat} {v : Value} (h : K5 f0 f a) (eg : g = pU f b k v) (ne : a ≠ b) : K5 f0 g a := by
  rw [eg]
  exact ⟨(fI_pU (Or.inl ne)).trans h.1, (fI_pU (Or.inl ne)).trans h.2.1, (fI_pU (Or.inl ne)).trans h.2.2.1, (fI_pU (Or.inl ne)).trans h.2.2.2.1, (fI_pU (Or.inl ne)).trans h.2.2.2.2⟩
theorem fI_oa {f g : Nat → va_E} {a b : Nat} (o : OA f g a) (ne : b ≠ a) (k : Nat) : fI g b k = fI f b k := fI_of (o b ne)
theorem plF_0 {T : Int → Int} {n e : Int} (h0 : wS T n e wBook ≠ 0) : plF T n e = wS T n e wBook := by unfold plF; rw [if_pos h0]
theorem plF_1 {T : Int → Int} {n e : Int} (h0 : wS T n e wBook = 0) (h1 : nS T n (tQn T n 1 e) 0 7 ≠ 0) : plF T n e = nS T n (tQn T n 1 e) 0 7 := by unfold plF; rw [if_neg (by omega), if_pos h1]
theorem plF_2 {T : Int → Int} {n e : Int} (h0 : wS T n e wBook = 0) (h1 : nS T n (tQn T n 1 e) 0 7 = 0) (h2 : wS T n (tQn T n 2 e) wAt ≠ 0) : plF T n e = wS T n (tQn T n 2 e) wAt := by unfold plF; rw [if_neg (by omega), if_neg (by omega), if_pos h2]
theorem plF_3 {T : Int → Int} {n e : Int} (h0 : wS T n e wBook = 0) (h1 : nS T n (tQn T n 1 e) 0 7 = 0) (h2 : wS T n (tQn T n 2 e) wAt = 0) (h3 : nS T n (tQn T n 3 e) 0 1439 ≠ 0) : plF T n e = nS T n (tQn T n 3 e) 0 1439 := by unfold plF; rw [if_neg (by omega), if_neg (by omega), if_neg (by omega), if_pos h3]
theorem plF_4 {T : Int → Int} {n e : Int} (h0 : wS T n e wBook = 0) (h1 : nS T n (tQn T n 1 e) 0 7 = 0) (h2 : wS T n (tQn T n 2 e) wAt = 0) (h3 : nS T n (tQn T n 3 e) 0 1439 = 0) (h4 : wS T n (tQn T n 4 e) wFor ≠ 0) : plF T n e = wS T n (tQn T n 4 e) wFor := by unfold plF; rw [if_neg (by omega), if_neg (by omega), if_neg (by omega), if_neg (by omega), if_pos h4]
theorem plF_5 {T : Int → Int} {n e : Int} (h0 : wS T n e wBook = 0) (h1 : nS T n (tQn T n 1 e) 0 7 = 0) (h2 : wS T n (tQn T n 2 e) wAt = 0) (h3 : nS T n (tQn T n 3 e) 0 1439 = 0) (h4 : wS T n (tQn T n 4 e) wFor = 0) : plF T n e = nS T n (tQn T n 5 e) 1 4320 := by unfold plF; rw [if_neg (by omega), if_neg (by omega), if_neg (by omega), if_neg (by omega), if_neg (by omega)]
theorem flt {x F z : Int} (h : x = z) (e : F = z) (g : z ≠ 0) : F ≠ 0 ∧ x = F := ⟨by omega, by omega⟩
set_option maxHeartbeats 4000000 in
set_option maxRecDepth 100000 in
theorem c_X5_take_q {Z : Zt} (zo : Zok Z) (l : Launch) (D : va_G) (cy : Cy) (L0 : List Nat) (f0 : Nat → va_E) (a0 : Nat) (a1 : Nat) (m_a0 : a0 ∈ L0) (o_a0 : Ob f0 a0 4) (b_a1 : List Int32) (v_a1 : Nat) (nb_a1 : Asc b_a1) (tx_a1 : ∀ (A : Nat → Prop) (U : State) (H : Heap), Z A U H → Tx b_a1 a1 v_a1 A U H) (hg : GI cy L0 f0) (Tt : Int → Int) (nn : Int) (tp : Nat) (rt : RT Tt nn f0 a0 tp) (ee : Int) (rs : RS Tt nn f0 a0 ee) (e0 : 0 ≤ ee) (e1 : ee ≤ nn) : Ci Z l yX5_take (Cond.code yX5_take cX5_take 2 (some .boolean) :: TB) ({ frames := 5, cells := 0, slots := 0, locals := 109 } : Room) 0 0 D (tq cy) [.ref a0, .ref a1] L0 f0 (fun (r : Int) (L1 : List Nat) (f1 : Nat → va_E) => L0 = L1 ∧ GI cy L0 f1 ∧ Ex cy f0 f1 ∧ ((r = 1 ∧ wS Tt nn ee b_a1 = 0 ∧ OA f0 f1 a0 ∧ K5 f0 f1 a0 ∧ RT Tt nn f1 a0 tp ∧ RS Tt nn f1 a0 (tQ Tt nn ee)) ∨ (r = 0 ∧ wS Tt nn ee b_a1 ≠ 0 ∧ f1 = f0))) := by
  refine Ci.post (c_X5_take_p zo l D cy L0 f0 a0 a1 m_a0 o_a0 b_a1 v_a1 nb_a1 tx_a1 hg Tt nn tp rt ee rs e0 e1) ?_
  rintro r L1 f1 ⟨g1, g2, g3, h⟩
  refine ⟨g1, g2, g3, ?_⟩
  rcases h with ⟨q1, q2, q3⟩ | ⟨q1, q2, q3⟩
  · exact Or.inl ⟨q1, wS_0 q2, q3⟩
  · exact Or.inr ⟨q1, fun z => q2 ((wS_iff e0 e1).mp z), q3⟩
set_option maxHeartbeats 4000000 in
set_option maxRecDepth 100000 in
theorem c_X5_require_q {Z : Zt} (zo : Zok Z) (l : Launch) (D : va_G) (cy : Cy) (L0 : List Nat) (f0 : Nat → va_E) (a0 : Nat) (a1 : Nat) (m_a0 : a0 ∈ L0) (o_a0 : Ob f0 a0 4) (b_a1 : List Int32) (v_a1 : Nat) (nb_a1 : Asc b_a1) (tx_a1 : ∀ (A : Nat → Prop) (U : State) (H : Heap), Z A U H → Tx b_a1 a1 v_a1 A U H) (hg : GI cy L0 f0) (Tt : Int → Int) (nn : Int) (tp : Nat) (rt : RT Tt nn f0 a0 tp) (ee : Int) (rs : RS Tt nn f0 a0 ee) (e0 : 0 ≤ ee) (e1 : ee ≤ nn) : Ci Z l yX5_require (Cond.code yX5_require cX5_require 2 (some .boolean) :: TB) ({ frames := 6, cells := 0, slots := 0, locals := 130 } : Room) 0 0 D (tq cy) [.ref a0, .ref a1] L0 f0 (fun (r : Int) (L1 : List Nat) (f1 : Nat → va_E) => L0 = L1 ∧ GI cy L0 f1 ∧ Ex cy f0 f1 ∧ ((r = 1 ∧ wS Tt nn ee b_a1 = 0 ∧ OA f0 f1 a0 ∧ K5 f0 f1 a0 ∧ RT Tt nn f1 a0 tp ∧ RS Tt nn f1 a0 (tQ Tt nn ee)) ∨ (r = 0 ∧ wS Tt nn ee b_a1 ≠ 0 ∧ OA f0 f1 a0 ∧ fI f1 a0 5 = wS Tt nn ee b_a1))) := by
  refine Ci.post (c_X5_require_p zo l D cy L0 f0 a0 a1 m_a0 o_a0 b_a1 v_a1 nb_a1 tx_a1 hg Tt nn tp rt ee rs e0 e1) ?_
  rintro r L1 f1 ⟨g1, g2, g3, h⟩
  refine ⟨g1, g2, g3, ?_⟩
  rcases h with ⟨q1, q2, q3⟩ | ⟨q1, q2, q3, q4⟩
  · exact Or.inl ⟨q1, wS_0 q2, q3⟩
  · exact Or.inr ⟨q1, fun z => q2 ((wS_iff e0 e1).mp z), q3, q4.trans (wS_1 q2).symm⟩
set_option maxHeartbeats 4000000 in
set_option maxRecDepth 100000 in
theorem c_X5_takeNumber_q {Z : Zt} (zo : Zok Z) (l : Launch) (D : va_G) (cy : Cy) (L0 : List Nat) (f0 : Nat → va_E) (a0 : Nat) (x1 : Int) (lx1 : -2147483648 ≤ x1) (ux1 : x1 ≤ 2147483647) (x2 : Int) (lx2 : -2147483648 ≤ x2) (ux2 : x2 ≤ 2147483647) (m_a0 : a0 ∈ L0) (o_a0 : Ob f0 a0 4) (hg : GI cy L0 f0) (Tt : Int → Int) (nn : Int) (tp : Nat) (rt : RT Tt nn f0 a0 tp) (ee : Int) (rs : RS Tt nn f0 a0 ee) (e0 : 0 ≤ ee) (e1 : ee ≤ nn) : Ci Z l yX5_takeNumber (Cond.code yX5_takeNumber cX5_takeNumber 5 (some .int) :: TB) ({ frames := 2, cells := 0, slots := 0, locals := 42 } : Room) 0 0 D (tq cy) [.ref a0, .int (iI x1), .int (iI x2)] L0 f0 (fun (r : Int) (L1 : List Nat) (f1 : Nat → va_E) => L0 = L1 ∧ GI cy L0 f1 ∧ Ex cy f0 f1 ∧ ((nS Tt nn ee x1 x2 = 0 ∧ r = vN Tt nn ee ∧ x1 ≤ r ∧ r ≤ x2 ∧ OA f0 f1 a0 ∧ K5 f0 f1 a0 ∧ RT Tt nn f1 a0 tp ∧ RS Tt nn f1 a0 (tQ Tt nn ee)) ∨ (nS Tt nn ee x1 x2 ≠ 0 ∧ r = -1 ∧ OA f0 f1 a0 ∧ fI f1 a0 5 = nS Tt nn ee x1 x2))) := by
  refine Ci.post (c_X5_takeNumber_p zo l D cy L0 f0 a0 x1 lx1 ux1 x2 lx2 ux2 m_a0 o_a0 hg Tt nn tp rt ee rs e0 e1) ?_
  rintro r L1 f1 ⟨g1, g2, g3, h⟩
  refine ⟨g1, g2, g3, ?_⟩
  have pb := tP_b (T := Tt) e1
  have ns := nS_of (T := Tt) (n := nn) (e := ee) (lo := x1) (hi := x2)
  rcases h with ⟨q1, q2, q3, q4, q5⟩ | ⟨q1, q2, q3, q4⟩ | ⟨q1, q2, q3, q4, q5⟩
  · exact Or.inl ⟨ns.1 ⟨q1, q2, q3⟩, q4, by omega, by omega, q5⟩
  · have z := ns.2.1 q1; exact Or.inr ⟨by omega, q2, q3, by omega⟩
  · have z := ns.2.2 ⟨q1, q2⟩; exact Or.inr ⟨by omega, q3, q4, by omega⟩
set_option maxHeartbeats 4000000 in
set_option maxRecDepth 100000 in
theorem c_X5_weekdayHere_q {Z : Zt} (zo : Zok Z) (l : Launch) (D : va_G) (cy : Cy) (L0 : List Nat) (f0 : Nat → va_E) (a0 : Nat) (m_a0 : a0 ∈ L0) (o_a0 : Ob f0 a0 4) (hg : GI cy L0 f0) (Tt : Int → Int) (nn : Int) (tp : Nat) (rt : RT Tt nn f0 a0 tp) (ee : Int) (rs : RS Tt nn f0 a0 ee) (e0 : 0 ≤ ee) (e1 : ee ≤ nn) : Ci Z l yX5_weekdayHere (Cond.code yX5_weekdayHere cX5_weekdayHere 2 (some .int) :: TB) ({ frames := 5, cells := 0, slots := 0, locals := 109 } : Room) 0 0 D (tq cy) [.ref a0] L0 f0 (fun (r : Int) (L1 : List Nat) (f1 : Nat → va_E) => L0 = L1 ∧ f0 = f1 ∧ (r = wdv Tt nn ee)) := by
  refine Ci.post (c_X5_weekdayHere_p zo l D cy L0 f0 a0 m_a0 o_a0 hg Tt nn tp rt ee rs e0 e1) ?_
  rintro r L1 f1 ⟨g1, g2, h⟩
  exact ⟨g1, g2, h.v e0 e1⟩