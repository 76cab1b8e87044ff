/-! ===== odds: what is dropped or moved, as a function of keys (-2: as at first, -1: dropped, else the time) ===== -/
def OdR (K T : Int → Int) (n : Int) (O : Int → Int) : Prop := (∀ i : Int, 0 ≤ i → i < n → O (K i) = T i ∧ -1 ≤ T i) ∧ (∀ k : Int, O k ≠ -2 → ∃ i : Int, 0 ≤ i ∧ i < n ∧ K i = k) ∧ (∀ i j : Int, 0 ≤ i → i < n → 0 ≤ j → j < n → K i = K j → i = j)
def upO (O : Int → Int) (k v : Int) : Int → Int := fun j => if j = k then v else O j
theorem upO_s {O : Int → Int} {k v : Int} : upO O k v k = v := by unfold upO; rw [if_pos rfl]
theorem upO_n {O : Int → Int} {k v j : Int} (h : j ≠ k) : upO O k v j = O j := by unfold upO; rw [if_neg h]
theorem OdR.no {K T O : Int → Int} {n k : Int} (h : OdR K T n O) (e : ∀ i : Int, 0 ≤ i → i < n → K i ≠ k) : O k = -2 := by
  rcases Classical.em (O k = -2) with c | c
  · exact c
  · obtain ⟨i, i0, i1, i2⟩ := h.2.1 k c
    exact absurd i2 (e i i0 i1)
theorem OdR.at {K T O : Int → Int} {n k i : Int} (h : OdR K T n O) (i0 : 0 ≤ i) (i1 : i < n) (e : K i = k) : T i = O k ∧ O k ≠ -2 ∧ -1 ≤ O k := by
  have q := h.1 i i0 i1
  rw [e] at q
  exact ⟨q.1.symm, by omega, by omega⟩
theorem OdR.lo {K T O : Int → Int} {n : Int} (h : OdR K T n O) (k : Int) : -2 ≤ O k := by
  rcases Classical.em (O k = -2) with c | c
  · omega
  · obtain ⟨i, i0, i1, i2⟩ := h.2.1 k c
    have := (h.at i0 i1 i2).2.2
    omega
theorem OdR.cg {K T K' T' O : Int → Int} {n n' : Int} (h : OdR K T n O) (en : n' = n) (eK : ∀ i : Int, 0 ≤ i → i < n → K' i = K i) (eT : ∀ i : Int, 0 ≤ i → i < n → T' i = T i) : OdR K' T' n' O := by
  subst en
  refine ⟨fun i i0 i1 => ?_, fun k hk => ?_, fun i j i0 i1 j0 j1 e => ?_⟩
  · rw [eK i i0 i1, eT i i0 i1]; exact h.1 i i0 i1
  · obtain ⟨i, i0, i1, i2⟩ := h.2.1 k hk
    exact ⟨i, i0, i1, (eK i i0 i1).trans i2⟩
  · rw [eK i i0 i1, eK j j0 j1] at e; exact h.2.2 i j i0 i1 j0 j1 e
/-- two of one row have the same function -/
theorem OdR.fn {K T O O' : Int → Int} {n : Int} (h : OdR K T n O) (g : OdR K T n O') : O = O' := by
  funext k
  rcases Classical.em (O k = -2) with c | c
  · rcases Classical.em (O' k = -2) with d | d
    · rw [c, d]
    · obtain ⟨i, i0, i1, i2⟩ := g.2.1 k d
      exact absurd c (h.at i0 i1 i2).2.1
  · obtain ⟨i, i0, i1, i2⟩ := h.2.1 k c
    rw [← (h.at i0 i1 i2).1, ← (g.at i0 i1 i2).1]
theorem OdR.nil {K T : Int → Int} {n : Int} (h : n = 0) : OdR K T n (fun _ => -2) := ⟨fun i i0 i1 => by omega, fun k hk => absurd rfl hk, fun i j i0 i1 => by omega⟩
theorem OdR.add {K T K' T' O : Int → Int} {n n' k v : Int} (h : OdR K T n O) (n0 : 0 ≤ n) (ok : O k = -2) (v0 : -1 ≤ v) (en : n' = n + 1) (eK : ∀ i : Int, 0 ≤ i → i < n → K' i = K i) (eT : ∀ i : Int, 0 ≤ i → i < n → T' i = T i) (ek : K' n = k) (ev : T' n = v) : OdR K' T' n' (upO O k v) := by
  subst en
  have nk : ∀ i : Int, 0 ≤ i → i < n → K i ≠ k := fun i i0 i1 e => (h.at i0 i1 e).2.1 ok
  refine ⟨fun i i0 i1 => ?_, fun j hj => ?_, fun i j i0 i1 j0 j1 e => ?_⟩
  · by_cases q : i = n
    · rw [q, ek, ev, upO_s]; exact ⟨rfl, v0⟩
    · rw [eK i i0 (by omega), eT i i0 (by omega), upO_n (nk i i0 (by omega))]; exact h.1 i i0 (by omega)
  · by_cases q : j = k
    · exact ⟨n, n0, by omega, by rw [q]; exact ek⟩
    · rw [upO_n q] at hj
      obtain ⟨i, i0, i1, i2⟩ := h.2.1 j hj
      exact ⟨i, i0, by omega, (eK i i0 i1).trans i2⟩
  · by_cases p : i = n
    · by_cases q : j = n
      · omega
      · rw [p, ek, eK j j0 (by omega)] at e
        exact absurd e.symm (nk j j0 (by omega))
    · by_cases q : j = n
      · rw [q, ek, eK i i0 (by omega)] at e
        exact absurd e (nk i i0 (by omega))
      · rw [eK i i0 (by omega), eK j j0 (by omega)] at e
        exact h.2.2 i j i0 (by omega) j0 (by omega) e
theorem OdR.set {K T K' T' O : Int → Int} {n n' k v i : Int} (h : OdR K T n O) (i0 : 0 ≤ i) (i1 : i < n) (ek : K i = k) (v0 : -1 ≤ v) (en : n' = n) (eK : ∀ j : Int, 0 ≤ j → j < n → K' j = K j) (eT : ∀ j : Int, 0 ≤ j → j < n → j ≠ i → T' j = T j) (ev : T' i = v) : OdR K' T' n' (upO O k v) := by
  subst en
  refine ⟨fun j j0 j1 => ?_, fun j hj => ?_, fun a b a0 a1 b0 b1 e => ?_⟩
  · rw [eK j j0 j1]
    by_cases q : j = i
    · rw [q, ek, ev, upO_s]; exact ⟨rfl, v0⟩
    · have nk : K j ≠ k := fun e => q (h.2.2 j i j0 j1 i0 i1 (e.trans ek.symm))
      rw [eT j j0 j1 q, upO_n nk]; exact h.1 j j0 j1
  · by_cases q : j = k
    · exact ⟨i, i0, i1, by rw [eK i i0 i1, ek, q]⟩
    · rw [upO_n q] at hj
      obtain ⟨a, a0, a1, a2⟩ := h.2.1 j hj
      exact ⟨a, a0, a1, (eK a a0 a1).trans a2⟩
  · rw [eK a a0 a1, eK b b0 b1] at e; exact h.2.2 a b a0 a1 b0 b1 e
theorem OdR.del {K T K' T' O : Int → Int} {n n' k i : Int} {pi : Int → Int} (h : OdR K T n O) (i0 : 0 ≤ i) (i1 : i < n) (ek : K i = k) (en : n' = n - 1) (pr : ∀ j : Int, 0 ≤ j → j < n - 1 → 0 ≤ pi j ∧ pi j < n ∧ pi j ≠ i ∧ K' j = K (pi j) ∧ T' j = T (pi j)) (inj : ∀ a b : Int, 0 ≤ a → a < n - 1 → 0 ≤ b → b < n - 1 → pi a = pi b → a = b) (sur : ∀ l : Int, 0 ≤ l → l < n → l ≠ i → ∃ j : Int, 0 ≤ j ∧ j < n - 1 ∧ pi j = l) : OdR K' T' n' (upO O k (-2)) := by
  subst en
  refine ⟨fun j j0 j1 => ?_, fun j hj => ?_, fun a b a0 a1 b0 b1 e => ?_⟩
  · obtain ⟨p0, p1, p2, p3, p4⟩ := pr j j0 j1
    have nk : K (pi j) ≠ k := fun e => p2 (h.2.2 _ _ p0 p1 i0 i1 (e.trans ek.symm))
    rw [p3, p4, upO_n nk]; exact h.1 _ p0 p1
  · by_cases q : j = k
    · rw [q, upO_s] at hj; exact absurd rfl hj
    · rw [upO_n q] at hj
      obtain ⟨l, l0, l1, l2⟩ := h.2.1 j hj
      have nl : l ≠ i := fun e => q (by rw [← l2, e, ek])
      obtain ⟨a, a0, a1, a2⟩ := sur l l0 l1 nl
      exact ⟨a, a0, a1, by rw [(pr a a0 a1).2.2.2.1, a2]; exact l2⟩
  · obtain ⟨p0, p1, -, p3, -⟩ := pr a a0 a1
    obtain ⟨q0, q1, -, q3, -⟩ := pr b b0 b1
    rw [p3, q3] at e
    exact inj a b a0 a1 b0 b1 (h.2.2 _ _ p0 p1 q0 q1 e)
/-- the last one comes into its place -/
theorem OdR.swap {K T K' T' O : Int → Int} {n n' k i : Int} (h : OdR K T n O) (i0 : 0 ≤ i) (i1 : i < n) (ek : K i = k) (en : n' = n - 1) (eK : ∀ j : Int, 0 ≤ j → j < n - 1 → j ≠ i → K' j = K j) (eT : ∀ j : Int, 0 ≤ j → j < n - 1 → j ≠ i → T' j = T j) (fK : K' i = K (n - 1)) (fT : T' i = T (n - 1)) : OdR K' T' n' (upO O k (-2)) := by
  refine h.del (pi := fun j => if j = i then n - 1 else j) i0 i1 ek en (fun j j0 j1 => ?_) (fun a b a0 a1 b0 b1 e => ?_) (fun l l0 l1 nl => ?_)
  · show 0 ≤ (if j = i then n - 1 else j) ∧ (if j = i then n - 1 else j) < n ∧ (if j = i then n - 1 else j) ≠ i ∧ K' j = K (if j = i then n - 1 else j) ∧ T' j = T (if j = i then n - 1 else j)
    by_cases q : j = i
    · rw [if_pos q]
      exact ⟨by omega, by omega, by omega, by rw [q]; exact fK, by rw [q]; exact fT⟩
    · rw [if_neg q]
      exact ⟨by omega, by omega, q, eK j j0 j1 q, eT j j0 j1 q⟩
  · have e : (if a = i then n - 1 else a) = (if b = i then n - 1 else b) := e
    split at e <;> split at e <;> omega
  · show ∃ j : Int, 0 ≤ j ∧ j < n - 1 ∧ (if j = i then n - 1 else j) = l
    by_cases q : l = n - 1
    · exact ⟨i, i0, by omega, by rw [if_pos rfl]; exact q.symm⟩
    · exact ⟨l, l0, by omega, by rw [if_neg nl]⟩
/-- those behind it come one nearer -/
theorem OdR.shift {K T K' T' O : Int → Int} {n n' k i : Int} (h : OdR K T n O) (i0 : 0 ≤ i) (i1 : i < n) (ek : K i = k) (en : n' = n - 1) (lo : ∀ j : Int, 0 ≤ j → j < i → K' j = K j ∧ T' j = T j) (hi : ∀ j : Int, i ≤ j → j < n - 1 → K' j = K (j + 1) ∧ T' j = T (j + 1)) : OdR K' T' n' (upO O k (-2)) := by
  refine h.del (pi := fun j => if j < i then j else j + 1) i0 i1 ek en (fun j j0 j1 => ?_) (fun a b a0 a1 b0 b1 e => ?_) (fun l l0 l1 nl => ?_)
  · show 0 ≤ (if j < i then j else j + 1) ∧ (if j < i then j else j + 1) < n ∧ (if j < i then j else j + 1) ≠ i ∧ K' j = K (if j < i then j else j + 1) ∧ T' j = T (if j < i then j else j + 1)
    by_cases q : j < i
    · rw [if_pos q]
      exact ⟨by omega, by omega, by omega, lo j j0 q⟩
    · rw [if_neg q]
      exact ⟨by omega, by omega, by omega, hi j (by omega) j1⟩
  · have e : (if a < i then a else a + 1) = (if b < i then b else b + 1) := e
    split at e <;> split at e <;> omega
  · show ∃ j : Int, 0 ≤ j ∧ j < n - 1 ∧ (if j < i then j else j + 1) = l
    by_cases q : l < i
    · exact ⟨l, l0, by omega, by rw [if_pos q]⟩
    · exact ⟨l - 1, by omega, by omega, by rw [if_neg (by omega)]; omega⟩
/-! ===== some of them go, from the last one on ===== -/
def CuI (P : Int → Prop) (K O O' : Int → Int) (n c : Int) : Prop := (∀ k : Int, O' k = O k ∨ (O' k = -2 ∧ P k)) ∧ (∀ j : Int, c < j → j < n → ¬ P (K j))
theorem CuI.start {P : Int → Prop} {K O : Int → Int} {n c : Int} (h : n ≤ c + 1) : CuI P K O O n c := ⟨fun _ => Or.inl rfl, fun j j0 j1 => by omega⟩
theorem CuI.cg {P : Int → Prop} {K K' O O' : Int → Int} {n n' c : Int} (h : CuI P K O O' n c) (en : n' = n) (c0 : -1 ≤ c) (eK : ∀ i : Int, 0 ≤ i → i < n → K' i = K i) : CuI P K' O O' n' c := by
  subst en
  exact ⟨h.1, fun j j0 j1 => by rw [eK j (by omega) j1]; exact h.2 j j0 j1⟩
theorem CuI.stay {P : Int → Prop} {K O O' : Int → Int} {n c c' : Int} (h : CuI P K O O' n c) (ec : c' = c - 1) (k : c < n → ¬ P (K c)) : CuI P K O O' n c' := by
  subst ec
  refine ⟨h.1, fun j j0 j1 => ?_⟩
  by_cases q : j = c
  · rw [q]; exact k (by omega)
  · exact h.2 j (by omega) j1
theorem CuI.gone {P : Int → Prop} {K K' O O' : Int → Int} {n n' c c' : Int} (h : CuI P K O O' n c) (ec : c' = c - 1) (en : n' = n - 1) (p : P (K c)) (e : ∀ j : Int, c ≤ j → j < n - 1 → ∃ l : Int, c < l ∧ l < n ∧ K' j = K l) : CuI P K' O (upO O' (K c) (-2)) n' c' := by
  subst ec
  subst en
  refine ⟨fun k => ?_, fun j j0 j1 => ?_⟩
  · by_cases q : k = K c
    · rw [q, upO_s]; exact Or.inr ⟨rfl, p⟩
    · rw [upO_n q]; exact h.1 k
  · obtain ⟨l, l0, l1, l2⟩ := e j (by omega) j1
    rw [l2]; exact h.2 l l0 l1
noncomputable def cutH (O : Int → Int) (d : Int) : Int → Int := fun k => if d ≤ k then -2 else O k
noncomputable def cutT (O : Int → Int) (d : Int) : Int → Int := fun k => if k < d then -2 else O k
theorem CuI.head {K T O O' : Int → Int} {n d : Int} (h : CuI (fun k => d ≤ k) K O O' n (-1)) (o : OdR K T n O') : O' = cutH O d := by
  funext k
  unfold cutH
  by_cases q : d ≤ k
  · rw [if_pos q]
    rcases Classical.em (O' k = -2) with c | c
    · exact c
    · obtain ⟨i, i0, i1, i2⟩ := o.2.1 k c
      exact absurd (show d ≤ K i by rw [i2]; exact q) (h.2 i (by omega) i1)
  · rw [if_neg q]
    rcases h.1 k with c | c
    · exact c
    · exact absurd c.2 q
theorem CuI.tail {K T O O' : Int → Int} {n d : Int} (h : CuI (fun k => k < d) K O O' n (-1)) (o : OdR K T n O') : O' = cutT O d := by
  funext k
  unfold cutT
  by_cases q : k < d
  · rw [if_pos q]
    rcases Classical.em (O' k = -2) with c | c
    · exact c
    · obtain ⟨i, i0, i1, i2⟩ := o.2.1 k c
      exact absurd (show K i < d by rw [i2]; exact q) (h.2 i (by omega) i1)
  · rw [if_neg q]
    rcases h.1 k with c | c
    · exact c
    · exact absurd c.2 q
/-! ===== how many: of all, of those dropped ===== -/
theorem cn_put {p q : Int → Prop} {k : Int} (h0 : 0 ≤ k) (h1 : k ≤ 36524) (nk : ¬ p k) (e : ∀ d : Int, q d ↔ (p d ∨ d = k)) : cn q 0 36525 = cn p 0 36525 + 1 := by
  have a1 := cn_add (p := p) (a := 0) (b := k) (c := 36525) h0 (by omega)
  have a2 := cn_add (p := p) (a := k) (b := k + 1) (c := 36525) (by omega) (by omega)
  have b1 := cn_add (p := q) (a := 0) (b := k) (c := 36525) h0 (by omega)
  have b2 := cn_add (p := q) (a := k) (b := k + 1) (c := 36525) (by omega) (by omega)
  have c1 : cn q 0 k = cn p 0 k := cn_cg (fun d d0 d1 => ⟨fun z => ((e d).mp z).elim id (fun z => by omega), fun z => (e d).mpr (Or.inl z)⟩)
  have c2 : cn q (k + 1) 36525 = cn p (k + 1) 36525 := cn_cg (fun d d0 d1 => ⟨fun z => ((e d).mp z).elim id (fun z => by omega), fun z => (e d).mpr (Or.inl z)⟩)
  have d1 : cn p k (k + 1) = 0 := cn_none (fun d d0 d1 z => nk (by rw [show k = d by omega]; exact z))
  have d2 := cn_yes (p := q) (a := k) (b := k) (Int.le_refl k) ((e k).mpr (Or.inr rfl))
  have d3 : cn q k k = 0 := cn_none (fun d d0 d1 => by omega)
  omega
/-! ===== a Booking's odds ===== -/
def KA (f : Nat → va_E) (b : Nat) : Nat := (fR f b 11).getD 0
def TA (f : Nat → va_E) (b : Nat) : Nat := (fR f b 12).getD 0
theorem KA_e {f : Nat → va_E} {b r : Nat} (h : fR f b 11 = some r) : r = KA f b := by unfold KA; rw [h]; rfl
theorem TA_e {f : Nat → va_E} {b r : Nat} (h : fR f b 12 = some r) : r = TA f b := by unfold TA; rw [h]; rfl
theorem KA_W {f g : Nat → va_E} {b : Nat} (h : fV g b 11 = fV f b 11) : KA g b = KA f b := by unfold KA; rw [fR_W h]
theorem TA_W {f g : Nat → va_E} {b : Nat} (h : fV g b 12 = fV f b 12) : TA g b = TA f b := by unfold TA; rw [fR_W h]
def OC (f : Nat → va_E) (b : Nat) (O : Int → Int) : Prop := OdR (aI f (KA f b)) (aI f (TA f b)) (fI f b 10) O
def OM (g : Int → Int) (p : Int) (O : Int → Int) : Prop := OdR (fun i => g (p + 12 + 2 * i)) (fun i => g (p + 13 + 2 * i)) (g (p + 11)) O
/-- the arrays of a Booking are there, and two -/
def AO (cy : Cy) (f : Nat → va_E) (b : Nat) : Prop := fR f b 11 = some (KA f b) ∧ fR f b 12 = some (TA f b) ∧ ArI f (KA f b) cy.2.1 16 ∧ ArI f (TA f b) cy.2.1 16
theorem AO.of {cy : Cy} {M : List Nat} {f : Nat → va_E} {b : Nat} (hg : GI cy M f) (m : b ∈ M) (o : Ob f b 0) : AO cy f b := by
  obtain ⟨r, r1, -, r3⟩ := (show ∃ r, fR f b 11 = some r ∧ r ∈ M ∧ ArI f r cy.2.1 16 from hg.2.1 _ m 0 11 o)
  obtain ⟨q, q1, -, q3⟩ := (show ∃ r, fR f b 12 = some r ∧ r ∈ M ∧ ArI f r cy.2.1 16 from hg.2.1 _ m 0 12 o)
  have e1 := KA_e r1
  have e2 := TA_e q1
  rw [e1] at r1 r3
  rw [e2] at q1 q3
  exact ⟨r1, q1, r3, q3⟩
/-- the odds of one Booking change alone -/
def Eo (f g : Nat → va_E) (b : Nat) : Prop := Sh f g ∧ (∀ y k : Nat, (y ≠ b ∨ k ≠ 10) → fV g y k = fV f y k) ∧ (∀ (y : Nat) (j : Int), aR g y j = aR f y j) ∧ (∀ (y : Nat) (j : Int), y ≠ KA f b → y ≠ TA f b → aI g y j = aI f y j)
theorem Eo.refl (f : Nat → va_E) (b : Nat) : Eo f f b := ⟨Sh.refl f, fun _ _ _ => rfl, fun _ _ => rfl, fun _ _ _ _ => rfl⟩
theorem Eo.ka {f g : Nat → va_E} {b : Nat} (h : Eo f g b) (y : Nat) : KA g y = KA f y ∧ TA g y = TA f y := ⟨KA_W (h.2.1 y 11 (Or.inr (by decide))), TA_W (h.2.1 y 12 (Or.inr (by decide)))⟩
theorem Eo.trans {f g h : Nat → va_E} {b : Nat} (x : Eo f g b) (y : Eo g h b) : Eo f h b := by
  have k := x.ka b
  exact ⟨x.1.trans y.1, fun z j q => (y.2.1 z j q).trans (x.2.1 z j q), fun z j => (y.2.2.1 z j).trans (x.2.2.1 z j), fun z j q1 q2 => (y.2.2.2 z j (by rw [k.1]; exact q1) (by rw [k.2]; exact q2)).trans (x.2.2.2 z j q1 q2)⟩
theorem Eo_pU {f : Nat → va_E} {a : Nat} {v : Int32} (o : Ob f a 0) : Eo f (pU f a 10 (.int v)) a :=
  ⟨Sh_pU o rfl rfl, fun y k q => fV_pU q, fun y j => aR_pU o, fun y j _ _ => aI_pU o⟩
theorem Eo_aU {f : Nat → va_E} {a c n : Nat} {cA : ClassId} {j : Int} {v : Int32} (o : ArI f c cA n) (q : c = KA f a ∨ c = TA f a) : Eo f (aU f c j v) a :=
  ⟨Sh_aU o, fun y k _ => fV_aU o, fun y k => aR_aU o, fun y k q1 q2 => aI_aU_ne (fun e => q.elim (fun z => q1 (e.trans z)) (fun z => q2 (e.trans z)))⟩
theorem Eo.ef {cy : Cy} {f g : Nat → va_E} {b : Nat} (h : Eo f g b) (o : Ob f b 0) (ao : AO cy f b) : Ef cy f g := by
  refine ⟨⟨h.1, fun a k o7 => h.2.1 a k (Or.inl (fun e => ?_)), fun a j _ => h.2.2.1 a j⟩, fun y k h1 h2 h3 => h.2.1 y k (Or.inr h1), fun y ci k oy h0 => h.2.1 y k (Or.inl (fun e => ?_)), fun y j => h.2.2.1 y j, fun y j oy => h.2.2.2 y j (fun e => ?_) (fun e => ?_)⟩
  · rw [e] at o7; exact absurd (o.uniq o7) (by decide)
  · rw [e] at oy; exact h0 (oy.uniq o)
  · rw [e] at oy; exact absurd (ArI_len ao.2.2.1 oy) (by decide)
  · rw [e] at oy; exact absurd (ArI_len ao.2.2.2 oy) (by decide)
theorem OC.keep {f g : Nat → va_E} {b : Nat} {O : Int → Int} (h : OC f b O) (e0 : fV g b 10 = fV f b 10) (e1 : fV g b 11 = fV f b 11) (e2 : fV g b 12 = fV f b 12) (eK : ∀ j : Int, aI g (KA f b) j = aI f (KA f b) j) (eT : ∀ j : Int, aI g (TA f b) j = aI f (TA f b) j) : OC g b O := by
  unfold OC
  rw [KA_W e1, TA_W e2]
  exact OdR.cg h (fI_W e0) (fun i _ _ => eK i) (fun i _ _ => eT i)
/-- the arrays of two Bookings are apart -/
def AD (f : Nat → va_E) (a b : Nat) : Prop := KA f a ≠ KA f b ∧ KA f a ≠ TA f b ∧ TA f a ≠ KA f b ∧ TA f a ≠ TA f b
theorem OC.eo {f g : Nat → va_E} {a b : Nat} {O : Int → Int} (h : OC f b O) (z : Eo f g a) (ne : b ≠ a) (d : AD f b a) : OC g b O :=
  h.keep (z.2.1 b 10 (Or.inl ne)) (z.2.1 b 11 (Or.inl ne)) (z.2.1 b 12 (Or.inl ne)) (fun j => z.2.2.2 _ j d.1 d.2.1) (fun j => z.2.2.2 _ j d.2.2.1 d.2.2.2)
/-- one goes: the last one comes into its place -/
theorem forget_fin {f0 f1 f2 f3 : Nat → va_E} {a ka ka2 ta ta2 : Nat} {i x y z v w : Int} {O : Int → Int} {cK cT : ClassId} (oc : OC f0 a O) (oa : Ob f0 a 0) (ne : KA f0 a ≠ TA f0 a) (i0 : 0 ≤ i) (i1 : i < fI f0 a 10) (rx : rg x) (ex : x = fI f0 a 10 - 1) (e1 : f1 = pU f0 a 10 (.int (iI x))) (eka : ka = KA f1 a) (eka2 : ka2 = KA f1 a) (ey : y = x) (rv : rg v) (hv : v = aI f1 ka2 y) (oK : ArI f1 ka cK 16) (e2 : f2 = aU f1 ka i (iI v)) (eta : ta = TA f2 a) (eta2 : ta2 = TA f2 a) (ez : z = x) (rw1 : rg w) (hw : w = aI f2 ta2 z) (oT : ArI f2 ta cT 16) (e3 : f3 = aU f2 ta i (iI w)) :
    Eo f0 f3 a ∧ OC f3 a (upO O (aI f0 (KA f0 a) i) (-2)) ∧ fI f3 a 10 = fI f0 a 10 - 1 ∧ (∀ j : Int, 0 ≤ j → j ≠ i → aI f3 (KA f0 a) j = aI f0 (KA f0 a) j) ∧ aI f3 (KA f0 a) i = aI f0 (KA f0 a) (fI f0 a 10 - 1) := by
  subst ey
  subst ez
  have q1 : Eo f0 f1 a := by rw [e1]; exact Eo_pU oa
  have k1 := q1.ka a
  have q2 : Eo f1 f2 a := by rw [e2]; exact Eo_aU oK (Or.inl eka)
  have k2 := q2.ka a
  have q3 : Eo f2 f3 a := by rw [e3]; exact Eo_aU oT (Or.inr eta)
  have k3 := q3.ka a
  rw [k1.1] at eka eka2
  rw [k2.2, k1.2] at eta eta2
  subst eka
  subst eka2
  subst eta
  subst eta2
  have b1 : ∀ (y : Nat) (j : Int), aI f1 y j = aI f0 y j := fun y j => by rw [e1]; exact aI_pU oa
  have c1 : ∀ j : Int, 0 ≤ j → j ≠ i → aI f2 (KA f0 a) j = aI f0 (KA f0 a) j := fun j j0 ji => by rw [e2, aI_aU_nj oK i0 j0 ji]; exact b1 _ _
  have c2 : aI f2 (KA f0 a) i = v := by rw [e2]; exact aI_aU_self oK rv
  have c3 : ∀ j : Int, aI f2 (TA f0 a) j = aI f0 (TA f0 a) j := fun j => by rw [e2, aI_aU_ne (fun q => ne q.symm)]; exact b1 _ _
  have d1 : ∀ j : Int, aI f3 (KA f0 a) j = aI f2 (KA f0 a) j := fun j => by rw [e3]; exact aI_aU_ne ne
  have d2 : ∀ j : Int, 0 ≤ j → j ≠ i → aI f3 (TA f0 a) j = aI f0 (TA f0 a) j := fun j j0 ji => by rw [e3, aI_aU_nj oT i0 j0 ji]; exact c3 j
  have d3 : aI f3 (TA f0 a) i = w := by rw [e3]; exact aI_aU_self oT rw1
  have n3 : fI f3 a 10 = fI f0 a 10 - 1 := by
    rw [e3, fI_aU oT, e2, fI_aU oK, e1, fI_pU_self oa rfl rx]; exact ex
  have fK : aI f3 (KA f0 a) i = aI f0 (KA f0 a) (fI f0 a 10 - 1) := by rw [d1, c2, hv, b1, ex]
  have fT : aI f3 (TA f0 a) i = aI f0 (TA f0 a) (fI f0 a 10 - 1) := by rw [d3, hw, c3, ex]
  have gK : ∀ j : Int, 0 ≤ j → j ≠ i → aI f3 (KA f0 a) j = aI f0 (KA f0 a) j := fun j j0 ji => (d1 j).trans (c1 j j0 ji)
  refine ⟨(q1.trans q2).trans q3, ?_, n3, gK, fK⟩
  unfold OC
  rw [k3.1, k2.1, k1.1, k3.2, k2.2, k1.2]
  exact OdR.swap oc i0 i1 rfl n3 (fun j j0 _ ji => gK j j0 ji) (fun j j0 _ ji => d2 j j0 ji) fK fT
/-- one is told, at its place or behind the last one -/
theorem change_fin {f0 f1 f2 f3 : Nat → va_E} {a ka ta : Nat} {i k t : Int} {O : Int → Int} {cK cT : ClassId} (oc : OC f0 a O) (oa : Ob f0 a 0) (bb : 0 ≤ fI f0 a 10 ∧ fI f0 a 10 ≤ 16) (ne : KA f0 a ≠ TA f0 a) (t0 : -1 ≤ t) (rk : rg k) (rt : rg t)
    (e1 : (f1 = f0 ∧ 0 ≤ i ∧ i < fI f0 a 10 ∧ aI f0 (KA f0 a) i = k ∧ O k ≠ -2) ∨ (f1 = pU f0 a 10 (.int (iI (i + 1))) ∧ i = fI f0 a 10 ∧ i < 16 ∧ O k = -2)) (eka : ka = KA f1 a) (oK : ArI f1 ka cK 16) (e2 : f2 = aU f1 ka i (iI k)) (eta : ta = TA f2 a) (oT : ArI f2 ta cT 16) (e3 : f3 = aU f2 ta i (iI t)) :
    Eo f0 f3 a ∧ OC f3 a (upO O k t) ∧ ((O k ≠ -2 ∧ fI f3 a 10 = fI f0 a 10) ∨ (O k = -2 ∧ fI f0 a 10 < 16 ∧ fI f3 a 10 = fI f0 a 10 + 1)) := by
  have i0 : 0 ≤ i := by rcases e1 with e | e <;> omega
  have q1 : Eo f0 f1 a := by
    rcases e1 with e | e
    · rw [e.1]; exact Eo.refl f0 a
    · rw [e.1]; exact Eo_pU oa
  have k1 := q1.ka a
  have q2 : Eo f1 f2 a := by rw [e2]; exact Eo_aU oK (Or.inl eka)
  have k2 := q2.ka a
  have q3 : Eo f2 f3 a := by rw [e3]; exact Eo_aU oT (Or.inr eta)
  have k3 := q3.ka a
  rw [k1.1] at eka
  rw [k2.2, k1.2] at eta
  subst eka
  subst eta
  have b1 : ∀ (y : Nat) (j : Int), aI f1 y j = aI f0 y j := fun y j => by
    rcases e1 with e | e
    · rw [e.1]
    · rw [e.1]; exact aI_pU oa
  have c1 : ∀ j : Int, 0 ≤ j → j ≠ i → aI f2 (KA f0 a) j = aI f0 (KA f0 a) j := fun j j0 ji => by rw [e2, aI_aU_nj oK i0 j0 ji]; exact b1 _ _
  have c2 : aI f2 (KA f0 a) i = k := by rw [e2]; exact aI_aU_self oK rk
  have c3 : ∀ j : Int, aI f2 (TA f0 a) j = aI f0 (TA f0 a) j := fun j => by rw [e2, aI_aU_ne (fun q => ne q.symm)]; exact b1 _ _
  have d1 : ∀ j : Int, aI f3 (KA f0 a) j = aI f2 (KA f0 a) j := fun j => by rw [e3]; exact aI_aU_ne ne
  have d2 : ∀ j : Int, 0 ≤ j → j ≠ i → aI f3 (TA f0 a) j = aI f0 (TA f0 a) j := fun j j0 ji => by rw [e3, aI_aU_nj oT i0 j0 ji]; exact c3 j
  have d3 : aI f3 (TA f0 a) i = t := by rw [e3]; exact aI_aU_self oT rt
  have n1 : fI f3 a 10 = fI f1 a 10 := by rw [e3, fI_aU oT, e2, fI_aU oK]
  refine ⟨(q1.trans q2).trans q3, ?_, ?_⟩
  · unfold OC
    rw [k3.1, k2.1, k1.1, k3.2, k2.2, k1.2]
    rcases e1 with ⟨e, g1, g2, g3, g4⟩ | ⟨e, g1, g2, g3⟩
    · refine OdR.set oc g1 g2 g3 t0 (by rw [n1, e]) (fun j j0 j1 => ?_) (fun j j0 _ ji => d2 j j0 ji) d3
      by_cases q : j = i
      · rw [q, d1, c2, g3]
      · rw [d1, c1 j j0 q]
    · refine OdR.add oc bb.1 g3 t0 (by rw [n1, e, fI_pU_self oa rfl ⟨by omega, by omega⟩, g1]) (fun j j0 j1 => ?_) (fun j j0 j1 => d2 j j0 (by omega)) ?_ ?_
      · rw [d1, c1 j j0 (by omega)]
      · rw [← g1, d1, c2]
      · rw [← g1]; exact d3
  · rcases e1 with ⟨e, g1, g2, g3, g4⟩ | ⟨e, g1, g2, g3⟩
    · exact Or.inl ⟨g4, by rw [n1, e]⟩
    · exact Or.inr ⟨g3, by omega, by rw [n1, e, fI_pU_self oa rfl ⟨by omega, by omega⟩, g1]⟩
theorem ch_in {x k n : Int} {O K T : Int → Int} (h : (x = -1 ∧ O k = -2) ∨ (0 ≤ x ∧ x < n ∧ K x = k ∧ T x = O k ∧ O k ≠ -2)) (q : x ≠ -1) : 0 ≤ x ∧ x < n ∧ K x = k ∧ O k ≠ -2 := by
  rcases h with h | h
  · exact absurd h.1 q
  · exact ⟨h.1, h.2.1, h.2.2.1, h.2.2.2.2⟩
theorem ch_key {x k n : Int} {O K T : Int → Int} (h : (x = -1 ∧ O k = -2) ∨ (0 ≤ x ∧ x < n ∧ K x = k ∧ T x = O k ∧ O k ≠ -2)) (q : x ≠ -1) : K x = k := (ch_in h q).2.2.1
theorem oc_key {f : Nat → va_E} {b : Nat} {O : Int → Int} {k k' : Int} (h : OC f b (upO O k (-2))) (e : k = k') : OC f b (upO O k' (-2)) := by rw [← e]; exact h
theorem ik_no {r : Int} {P : Prop} (h : (r = 1 ∧ P) ∨ (r = 0 ∧ ¬ P)) (e : r ≠ 1) : ¬ P := h.elim (fun z => absurd z.1 e) (fun z => z.2)
theorem ik_yes {r : Int} {P : Prop} (h : (r = 1 ∧ P) ∨ (r = 0 ∧ ¬ P)) (e : r ≠ 0) : P := h.elim (fun z => z.2) (fun z => absurd z.1 e)
theorem or_0 {r : Int} {P Q : Prop} (h : (r = 0 ∧ P) ∨ (r = 1 ∧ Q)) (e : r = 0) : P := h.elim (fun z => z.2) (fun z => by have := z.1; omega)
theorem or_1 {r : Int} {P Q : Prop} (h : (r = 0 ∧ P) ∨ (r = 1 ∧ Q)) (e : r ≠ 0) : Q := h.elim (fun z => absurd z.1 e) (fun z => z.2)
set_option maxHeartbeats 4000000 in
set_option maxRecDepth 100000 in
theorem c_X0_changeOf_o {Z : Zt} (zo : Zok Z) (l : Launch) (D : va_G) (cy : Cy) (L0 : List Nat) (f0 : Nat → va_E) (a0 : Nat) (x1 : Int) (lx1 : -2147483648 ≤ x1) (ux1 : x1 ≤ 2147483647) (m_a0 : a0 ∈ L0) (o_a0 : Ob f0 a0 0) (hg : GI cy L0 f0) (O : Int → Int) (oc : OC f0 a0 O) : Ci Z l yX0_changeOf (Cond.code yX0_changeOf cX0_changeOf 3 (some .int) :: TB) ({ frames := 0, cells := 0, slots := 0, locals := 0 } : Room) 0 0 D (tq cy) [.ref a0, .int (iI x1)] L0 f0 (fun (r : Int) (L1 : List Nat) (f1 : Nat → va_E) => L0 = L1 ∧ f0 = f1 ∧ ((r = -1 ∧ O x1 = -2) ∨ (0 ≤ r ∧ r < fI f0 a0 10 ∧ aI f0 (KA f0 a0) r = x1 ∧ aI f0 (TA f0 a0) r = O x1 ∧ O x1 ≠ -2))) := by
  refine Ci.enter (cc := cX0_changeOf) (n := 3) rfl (plainFor_of_name (by decide)) (Nat.le_of_ble_eq_true rfl) ?_
  intro p e s m below meth c ls A hx hb hr hts hown hlocks hnm hml hK hA hAe hw hZ hl
  have hown : s.vm.findClass RX0 = some m.cls := hown
  have hl : lv_has ls 3 [(0, .ref a0), (1, .int (iI x1))] := hl
  have hN : ZN s := (zo.2.2.2.2 _ _ _ hZ).2
  have bb : 0 ≤ fI f0 a0 10 ∧ fI f0 a0 10 ≤ 16 := hg.1 _ m_a0 0 10 o_a0
  refine q_iconst hx hb dX0_changeOf_0 ?_
  refine lv_istore_n (lv' := [(2, .int (iI 0)), (0, .ref a0), (1, .int (iI x1))]) hx hb dX0_changeOf_1 rfl hl (by decide) rfl (fun ls hl => ?_)
  have J2 : ∀ (n2 : Nat) (y2_2 : Int) (ly2_2 : -2147483648 ≤ y2_2) (uy2_2 : y2_2 ≤ 2147483647) (i1 : 0 ≤ y2_2) (i2 : ∀ j : Int, 0 ≤ j → j < y2_2 → aI f0 (KA f0 a0) j ≠ x1) (hn2 : ((2147483647 : Int) - y2_2).toNat < n2) (H : Heap) (locs : List Loc) (ls : Array Slot) (hw : Wd D A s.heap L0 f0 H locs) (hl : lv_has ls 3 [(0, .ref a0), (1, .int (iI x1)), (2, .int (iI y2_2))]), W p l e ({ frames := 0, cells := 0, slots := 0, locals := 0 } : Room) s m ([.ref a0, .int (iI x1)] : List Value).toArray below meth c H locs (0) (0) (MQ below (Qi D (tq cy) L0 f0 s.heap.size (fun (r : Int) (L1 : List Nat) (f1 : Nat → va_E) => L0 = L1 ∧ f0 = f1 ∧ ((r = -1 ∧ O x1 = -2) ∨ (0 ≤ r ∧ r < fI f0 a0 10 ∧ aI f0 (KA f0 a0) r = x1 ∧ aI f0 (TA f0 a0) r = O x1 ∧ O x1 ≠ -2)))) ([.ref a0, .int (iI x1)] : List Value).toArray s 0 0 A) (F0 m 2 ls []) := by
    intro n2
    induction n2 with
    | zero => intro y2_2 ly2_2 uy2_2 i1 i2 hn2; exact absurd hn2 (Nat.not_lt_zero _)
    | succ n2 ih2 =>
      intro y2_2 ly2_2 uy2_2 i1 i2 hn2 H locs ls hw hl
      refine lv_iload_n hx hb dX0_changeOf_2 rfl (lv_at hl 2 rfl) ?_
      refine lv_aload_n hx hb dX0_changeOf_3 rfl (lv_at hl 0 rfl) ?_
      refine q_geti (ci := 0) (C := RX0) (T := TX0) (N := 15) hx hb hts (fun w h => List.mem_cons_of_mem _ (mfX00 w h)) hown hK hw m_a0 o_a0 rfl 10 (by decide) (hts _ (List.mem_cons_of_mem _ (mr14 _ (List.mem_of_getElem? (i := 9) rfl)))) (fun _ h => h) rfl dX0_changeOf_4 (fun x_1 lx_1 ux_1 ex_1 => ?_)
      have bx_1 : 0 ≤ x_1 ∧ x_1 ≤ 16 := by rw [ex_1]; exact hg.1 _ m_a0 0 10 o_a0
      refine q_icmp_ge (tgt := 28) hx hb dX0_changeOf_7 (by decide) ⟨ly2_2, uy2_2⟩ ⟨lx_1, ux_1⟩ (fun c7 => ?_) (fun c7 => ?_)
      · refine q_iconst hx hb dX0_changeOf_28 ?_
        exact q_ret_i hx hb hr hlocks hK hAe hw ⟨by decide, by decide⟩ (Nat.le_of_ble_eq_true rfl) (Nat.le_of_ble_eq_true rfl) dX0_changeOf_29 ⟨rfl, rfl, by exact Or.inl ⟨by omega, OdR.no oc (fun i q0 q1 => i2 i q0 (by omega))⟩⟩
      · refine lv_aload_n hx hb dX0_changeOf_10 rfl (lv_at hl 0 rfl) ?_
        obtain ⟨r_2, er_2, m_r_2, o_r_2⟩ := (show ∃ r, fR f0 a0 11 = some r ∧ r ∈ L0 ∧ ArI f0 r cy.2.1 16 from hg.2.1 _ m_a0 0 11 o_a0)
        refine q_getr (ci := 0) (C := RX0) (T := TX0) (N := 15) hx hb hts (fun w h => List.mem_cons_of_mem _ (mfX00 w h)) hown hK hw m_a0 o_a0 rfl 11 (by decide) (hts _ (List.mem_cons_of_mem _ (mr3 _ (List.mem_of_getElem? (i := 2) rfl)))) (fun _ h => h) rfl er_2 dX0_changeOf_11 ?_
        have ek := KA_e er_2
        refine lv_iload_n hx hb dX0_changeOf_14 rfl (lv_at hl 2 rfl) ?_
        refine q_iald hx hb hK hw m_r_2 1 o_r_2 rfl ⟨ly2_2, uy2_2⟩ (by omega) (by omega) dX0_changeOf_15 (fun x_3 lx_3 ux_3 ex_3 => ?_)
        have h15 : x_3 = aI f0 (KA f0 a0) y2_2 := ex_3.trans (by rw [ek])
        refine lv_iload_n hx hb dX0_changeOf_16 rfl (lv_at hl 1 rfl) ?_
        refine q_icmp_ne (tgt := 22) hx hb dX0_changeOf_17 (by decide) ⟨lx_3, ux_3⟩ ⟨lx1, ux1⟩ (fun c17 => ?_) (fun c17 => ?_)
        · obtain ⟨x_4, lx_4, ux_4, hx_4, ex_4⟩ := q_inc y2_2 (1)
          try (replace ex_4 : x_4 = y2_2 + (1) := by omega)
          refine lv_iinc (v := iI x_4) (lv' := [(2, .int (iI x_4)), (0, .ref a0), (1, .int (iI x1))]) hx hb dX0_changeOf_22 hl (k := 2) rfl hx_4 (by decide) rfl (fun ls hl => ?_)
          refine lv_goto (tgt := 2) hx hb dX0_changeOf_25 (by decide) ?_
          exact ih2 x_4 lx_4 ux_4 (by omega) (by first | exact fun j q0 q1 => absurd q1 (by omega) | exact fun j q0 q1 => (Int.lt_or_le j y2_2).elim (fun q => i2 j q0 q) (fun q => by rw [show j = y2_2 by omega, ← h15]; exact c17) | fail "none") (by omega) _ _ _ hw (lv_sub hl [1, 2, 0] rfl)
        · refine lv_iload_n hx hb dX0_changeOf_20 rfl (lv_at hl 2 rfl) ?_
          exact q_ret_i hx hb hr hlocks hK hAe hw ⟨ly2_2, uy2_2⟩ (Nat.le_of_ble_eq_true rfl) (Nat.le_of_ble_eq_true rfl) dX0_changeOf_21 ⟨rfl, rfl, by exact Or.inr ⟨by omega, by omega, h15.symm.trans c17, (OdR.at oc (by omega) (by omega) (h15.symm.trans c17)).1, (OdR.at oc (by omega) (by omega) (h15.symm.trans c17)).2.1⟩⟩
  exact J2 ((((2147483647 : Int) - 0).toNat) + 1) 0 (by decide) (by decide) (by omega) (by first | exact fun j q0 q1 => absurd q1 (by omega) | exact fun j q0 q1 => (Int.lt_or_le j y2_2).elim (fun q => i2 j q0 q) (fun q => by rw [show j = y2_2 by omega, ← h15]; exact c17) | fail "none") (by omega) _ _ _ hw (lv_sub hl [1, 2, 0] rfl)
set_option maxHeartbeats 4000000 in
set_option maxRecDepth 100000 in
theorem c_X0_isDropped_o {Z : Zt} (zo : Zok Z) (l : Launch) (D : va_G) (cy : Cy) (L0 : List Nat) (f0 : Nat → va_E) (a0 : Nat) (x1 : Int) (lx1 : -2147483648 ≤ x1) (ux1 : x1 ≤ 2147483647) (m_a0 : a0 ∈ L0) (o_a0 : Ob f0 a0 0) (hg : GI cy L0 f0) (O : Int → Int) (oc : OC f0 a0 O) : Ci Z l yX0_isDropped (Cond.code yX0_isDropped cX0_isDropped 3 (some .boolean) :: TB) ({ frames := 1, cells := 0, slots := 0, locals := 22 } : Room) 0 0 D (tq cy) [.ref a0, .int (iI x1)] L0 f0 (fun (r : Int) (L1 : List Nat) (f1 : Nat → va_E) => L0 = L1 ∧ f0 = f1 ∧ ((r = 1 ∧ O x1 = -1) ∨ (r = 0 ∧ O x1 ≠ -1))) := by
  refine Ci.enter (cc := cX0_isDropped) (n := 3) rfl (plainFor_of_name (by decide)) (Nat.le_of_ble_eq_true rfl) ?_
  intro p e s m below meth c ls A hx hb hr hts hown hlocks hnm hml hK hA hAe hw hZ hl
  have hown : s.vm.findClass RX0 = some m.cls := hown
  have hl : lv_has ls 3 [(0, .ref a0), (1, .int (iI x1))] := hl
  have hN : ZN s := (zo.2.2.2.2 _ _ _ hZ).2
  have bb : 0 ≤ fI f0 a0 10 ∧ fI f0 a0 10 ≤ 16 := hg.1 _ m_a0 0 10 o_a0
  refine lv_aload_n hx hb dX0_isDropped_0 rfl (lv_at hl 0 rfl) ?_
  refine lv_iload_n hx hb dX0_isDropped_1 rfl (lv_at hl 1 rfl) ?_
  refine q_call_i hA hK hw (va_runV (As := [.int (iI x1)]) (rest := []) ⟨hx, hb, hml, hown, hts⟩ (c_X0_changeOf_o zo l D cy L0 f0 a0 x1 lx1 ux1 m_a0 o_a0 hg O oc _) (cwV 1 hts (gT (inV (mr26 _ (List.mem_of_getElem? (i := 15) rfl)) (mr26 _ (List.mem_of_getElem? (i := 16) rfl)) (mr26 _ (List.mem_of_getElem? (i := 17) rfl)) (mr2 _ (List.mem_of_getElem? (i := 9) rfl)) (mr26 _ (List.mem_of_getElem? (i := 18) rfl)))) rfl rfl rfl (by decide +kernel) ⟨Nat.le_of_ble_eq_true rfl, Nat.le_of_ble_eq_true rfl⟩) (Wd.preV zo hA hZ hw hK m_a0 o_a0 rfl) rfl rfl hl.1 rfl (lv_room (Nat.le_of_ble_eq_true rfl)) dX0_isDropped_2 ⟨Nat.le_of_ble_eq_true rfl, Nat.le_of_ble_eq_true rfl⟩) (fun x_1 L1 f1 H locs lx_1 ux_1 ex_1 hw => ?_)
  obtain ⟨rfl, rfl, ex_1⟩ := ex_1
  have h2 := ex_1
  refine lv_istore_n (lv' := [(2, .int (iI x_1)), (0, .ref a0), (1, .int (iI x1))]) hx hb dX0_isDropped_5 rfl hl (by decide) rfl (fun ls hl => ?_)
  refine lv_iload_n hx hb dX0_isDropped_6 rfl (lv_at hl 0 rfl) ?_
  refine q_iconst hx hb dX0_isDropped_7 ?_
  refine q_icmp_eq (tgt := 25) hx hb dX0_isDropped_8 (by decide) ⟨lx_1, ux_1⟩ ⟨by decide, by decide⟩ (fun c8 => ?_) (fun c8 => ?_)
  · refine q_iconst hx hb dX0_isDropped_25 ?_
    exact q_ret_z hx hb hr hlocks hK hAe hw (by omega) (Nat.le_of_ble_eq_true rfl) (Nat.le_of_ble_eq_true rfl) dX0_isDropped_26 ⟨rfl, rfl, by first | exact Or.inl ⟨by omega, by omega⟩ | exact Or.inr ⟨by omega, by omega⟩ | fail "none"⟩
  · refine lv_aload_n hx hb dX0_isDropped_11 rfl (lv_at hl 1 rfl) ?_
    obtain ⟨r_2, er_2, m_r_2, o_r_2⟩ := (show ∃ r, fR f0 a0 12 = some r ∧ r ∈ L0 ∧ ArI f0 r cy.2.1 16 from hg.2.1 _ m_a0 0 12 o_a0)
    refine q_getr (ci := 0) (C := RX0) (T := TX0) (N := 15) hx hb hts (fun w h => List.mem_cons_of_mem _ (mfX00 w h)) hown hK hw m_a0 o_a0 rfl 12 (by decide) (hts _ (List.mem_cons_of_mem _ (mr3 _ (List.mem_of_getElem? (i := 3) rfl)))) (fun _ h => h) rfl er_2 dX0_isDropped_12 ?_
    have et := TA_e er_2
    refine lv_iload_n hx hb dX0_isDropped_15 rfl (lv_at hl 0 rfl) ?_
    refine q_iald hx hb hK hw m_r_2 1 o_r_2 rfl ⟨lx_1, ux_1⟩ (by omega) (by omega) dX0_isDropped_16 (fun x_3 lx_3 ux_3 ex_3 => ?_)
    have h16 : x_3 = aI f0 (TA f0 a0) x_1 := ex_3.trans (by rw [et])
    refine q_iconst hx hb dX0_isDropped_17 ?_
    refine q_icmp_ne (tgt := 25) hx hb dX0_isDropped_18 (by decide) ⟨lx_3, ux_3⟩ ⟨by decide, by decide⟩ (fun c18 => ?_) (fun c18 => ?_)
    · refine q_iconst hx hb dX0_isDropped_25 ?_
      exact q_ret_z hx hb hr hlocks hK hAe hw (by omega) (Nat.le_of_ble_eq_true rfl) (Nat.le_of_ble_eq_true rfl) dX0_isDropped_26 ⟨rfl, rfl, by first | exact Or.inl ⟨by omega, by omega⟩ | exact Or.inr ⟨by omega, by omega⟩ | fail "none"⟩
    · refine q_iconst hx hb dX0_isDropped_21 ?_
      refine lv_goto (tgt := 26) hx hb dX0_isDropped_22 (by decide) ?_
      exact q_ret_z hx hb hr hlocks hK hAe hw (by omega) (Nat.le_of_ble_eq_true rfl) (Nat.le_of_ble_eq_true rfl) dX0_isDropped_26 ⟨rfl, rfl, by first | exact Or.inl ⟨by omega, by omega⟩ | exact Or.inr ⟨by omega, by omega⟩ | fail "none"⟩
set_option maxHeartbeats 4000000 in
set_option maxRecDepth 100000 in
theorem c_X0_forget_o {Z : Zt} (zo : Zok Z) (l : Launch) (D : va_G) (cy : Cy) (L0 : List Nat) (f0 : Nat → va_E) (a0 : Nat) (x1 : Int) (lx1 : -2147483648 ≤ x1) (ux1 : x1 ≤ 2147483647) (m_a0 : a0 ∈ L0) (o_a0 : Ob f0 a0 0) (hg : GI cy L0 f0) (O : Int → Int) (oc : OC f0 a0 O) (na : KA f0 a0 ≠ TA f0 a0) (h2 : 0 ≤ x1) (h1 : x1 < fI f0 a0 10) : Cv Z l yX0_forget (Cond.code yX0_forget cX0_forget 2 none :: TB) ({ frames := 0, cells := 0, slots := 0, locals := 0 } : Room) 0 0 D (tq cy) [.ref a0, .int (iI x1)] L0 f0 (fun (L1 : List Nat) (f1 : Nat → va_E) => L0 = L1 ∧ GI cy L0 f1 ∧ Ex cy f0 f1 ∧ (Eo f0 f1 a0 ∧ OC f1 a0 (upO O (aI f0 (KA f0 a0) x1) (-2)) ∧ fI f1 a0 10 = fI f0 a0 10 - 1 ∧ (∀ j : Int, 0 ≤ j → j ≠ x1 → aI f1 (KA f0 a0) j = aI f0 (KA f0 a0) j) ∧ aI f1 (KA f0 a0) x1 = aI f0 (KA f0 a0) (fI f0 a0 10 - 1))) := by
  refine Cv.enter (cc := cX0_forget) (n := 2) rfl (plainFor_of_name (by decide)) (Nat.le_of_ble_eq_true rfl) ?_
  intro p e s m below meth c ls A hx hb hr hts hown hlocks hnm hml hK hA hAe hw hZ hl
  have hown : s.vm.findClass RX0 = some m.cls := hown
  have hl : lv_has ls 2 [(0, .ref a0), (1, .int (iI x1))] := hl
  have hN : ZN s := (zo.2.2.2.2 _ _ _ hZ).2
  have hE : Ex cy f0 f0 := Ex.refl cy f0
  have bb : 0 ≤ fI f0 a0 10 ∧ fI f0 a0 10 ≤ 16 := hg.1 _ m_a0 0 10 o_a0
  have oa0 := o_a0
  refine lv_aload_n hx hb dX0_forget_0 rfl (lv_at hl 0 rfl) ?_
  refine lv_dup hx hb dX0_forget_1 rfl ?_
  refine q_geti (ci := 0) (C := RX0) (T := TX0) (N := 15) hx hb hts (fun w h => List.mem_cons_of_mem _ (mfX00 w h)) hown hK hw m_a0 o_a0 rfl 10 (by decide) (hts _ (List.mem_cons_of_mem _ (mr14 _ (List.mem_of_getElem? (i := 9) rfl)))) (fun _ h => h) rfl dX0_forget_2 (fun x_1 lx_1 ux_1 ex_1 => ?_)
  have bx_1 : 0 ≤ x_1 ∧ x_1 ≤ 16 := by rw [ex_1]; exact hg.1 _ m_a0 0 10 o_a0
  refine q_iconst hx hb dX0_forget_5 ?_
  first | refine q_isub hx hb dX0_forget_6 ⟨by omega, by omega⟩ (fun x_2 lx_2 ux_2 ex_2 => ?_) | refine q_isubw hx hb dX0_forget_6 (fun x_2 lx_2 ux_2 _ => ?_)
  have h6 := ex_2
  refine q_puti (ci := 0) (C := RX0) (T := TX0) (N := 15) hx hb hts (fun w h => List.mem_cons_of_mem _ (mfX00 w h)) hown hK hw m_a0 o_a0 rfl 10 (by decide) (hts _ (List.mem_cons_of_mem _ (mr14 _ (List.mem_of_getElem? (i := 9) rfl)))) (fun _ h => h) tyX0 tyX0_ok nmX0 rfl (ty := .int) (by decide +kernel) rfl rfl dX0_forget_7 (fun H locs hw => ?_)
  have oo := o_a0
  obtain ⟨f_3, ef_3⟩ : ∃ g : Nat → va_E, g = pU f0 a0 10 (.int (iI x_2)) := ⟨_, rfl⟩
  have hX : Ex cy f0 f_3 := by rw [ef_3]; exact Ex_pU oo rfl rfl (by decide)
  have hg : GI cy L0 f_3 := by rw [ef_3]; exact hg.putI oo rfl ⟨lx_2, ux_2⟩ (by show 0 ≤ x_2 ∧ x_2 ≤ 16; omega)
  rw [← ef_3] at hw
  have hE := hE.trans hX
  have o_a0 := hX.1.1 _ _ o_a0
  have vf_3 : fI f_3 a0 10 = x_2 := by rw [ef_3]; exact fI_pU_self oo rfl ⟨lx_2, ux_2⟩
  have p7 := ef_3
  refine lv_aload_n hx hb dX0_forget_10 rfl (lv_at hl 0 rfl) ?_
  obtain ⟨r_4, er_4, m_r_4, o_r_4⟩ := (show ∃ r, fR f_3 a0 11 = some r ∧ r ∈ L0 ∧ ArI f_3 r cy.2.1 16 from hg.2.1 _ m_a0 0 11 o_a0)
  refine q_getr (ci := 0) (C := RX0) (T := TX0) (N := 15) hx hb hts (fun w h => List.mem_cons_of_mem _ (mfX00 w h)) hown hK hw m_a0 o_a0 rfl 11 (by decide) (hts _ (List.mem_cons_of_mem _ (mr3 _ (List.mem_of_getElem? (i := 2) rfl)))) (fun _ h => h) rfl er_4 dX0_forget_11 ?_
  have k11 := KA_e er_4
  refine lv_iload_n hx hb dX0_forget_14 rfl (lv_at hl 1 rfl) ?_
  refine lv_aload_n hx hb dX0_forget_15 rfl (lv_at hl 0 rfl) ?_
  refine q_getr (ci := 0) (C := RX0) (T := TX0) (N := 15) hx hb hts (fun w h => List.mem_cons_of_mem _ (mfX00 w h)) hown hK hw m_a0 o_a0 rfl 11 (by decide) (hts _ (List.mem_cons_of_mem _ (mr3 _ (List.mem_of_getElem? (i := 2) rfl)))) (fun _ h => h) rfl er_4 dX0_forget_16 ?_
  have k16 := KA_e er_4
  refine lv_aload_n hx hb dX0_forget_19 rfl (lv_at hl 0 rfl) ?_
  refine q_geti (ci := 0) (C := RX0) (T := TX0) (N := 15) hx hb hts (fun w h => List.mem_cons_of_mem _ (mfX00 w h)) hown hK hw m_a0 o_a0 rfl 10 (by decide) (hts _ (List.mem_cons_of_mem _ (mr14 _ (List.mem_of_getElem? (i := 9) rfl)))) (fun _ h => h) rfl dX0_forget_20 (fun x_5 lx_5 ux_5 ex_5 => ?_)
  have bx_5 : 0 ≤ x_5 ∧ x_5 ≤ 16 := by rw [ex_5]; exact hg.1 _ m_a0 0 10 o_a0
  have h20 := ex_5
  refine q_iald hx hb hK hw m_r_4 1 o_r_4 rfl ⟨lx_5, ux_5⟩ (by omega) (by omega) dX0_forget_23 (fun x_6 lx_6 ux_6 ex_6 => ?_)
  have h23 := ex_6
  have r23 : rg x_6 := ⟨lx_6, ux_6⟩
  refine q_iast hx hb hK hw m_r_4 1 o_r_4 rfl ⟨lx1, ux1⟩ (by omega) (by omega) dX0_forget_24 (fun H locs hw => ?_)
  have oo := o_r_4
  obtain ⟨f_7, ef_7⟩ : ∃ g : Nat → va_E, g = aU f_3 r_4 x1 (iI x_6) := ⟨_, rfl⟩
  have hX : Ex cy f_3 f_7 := by rw [ef_7]; exact Ex_aU oo
  have hg : GI cy L0 f_7 := by rw [ef_7]; exact hg.putA oo
  rw [← ef_7] at hw
  have hE := hE.trans hX
  have o_a0 := hX.1.1 _ _ o_a0
  have t_a0_10_f_7 : fI f_7 a0 10 = fI f_3 a0 10 := by rw [ef_7]; exact fI_aU oo
  have p24 := ef_7
  have oK := oo
  refine lv_aload_n hx hb dX0_forget_25 rfl (lv_at hl 0 rfl) ?_
  obtain ⟨r_8, er_8, m_r_8, o_r_8⟩ := (show ∃ r, fR f_7 a0 12 = some r ∧ r ∈ L0 ∧ ArI f_7 r cy.2.1 16 from hg.2.1 _ m_a0 0 12 o_a0)
  refine q_getr (ci := 0) (C := RX0) (T := TX0) (N := 15) hx hb hts (fun w h => List.mem_cons_of_mem _ (mfX00 w h)) hown hK hw m_a0 o_a0 rfl 12 (by decide) (hts _ (List.mem_cons_of_mem _ (mr3 _ (List.mem_of_getElem? (i := 3) rfl)))) (fun _ h => h) rfl er_8 dX0_forget_26 ?_
  have k26 := TA_e er_8
  refine lv_iload_n hx hb dX0_forget_29 rfl (lv_at hl 1 rfl) ?_
  refine lv_aload_n hx hb dX0_forget_30 rfl (lv_at hl 0 rfl) ?_
  refine q_getr (ci := 0) (C := RX0) (T := TX0) (N := 15) hx hb hts (fun w h => List.mem_cons_of_mem _ (mfX00 w h)) hown hK hw m_a0 o_a0 rfl 12 (by decide) (hts _ (List.mem_cons_of_mem _ (mr3 _ (List.mem_of_getElem? (i := 3) rfl)))) (fun _ h => h) rfl er_8 dX0_forget_31 ?_
  have k31 := TA_e er_8
  refine lv_aload_n hx hb dX0_forget_34 rfl (lv_at hl 0 rfl) ?_
  refine q_geti (ci := 0) (C := RX0) (T := TX0) (N := 15) hx hb hts (fun w h => List.mem_cons_of_mem _ (mfX00 w h)) hown hK hw m_a0 o_a0 rfl 10 (by decide) (hts _ (List.mem_cons_of_mem _ (mr14 _ (List.mem_of_getElem? (i := 9) rfl)))) (fun _ h => h) rfl dX0_forget_35 (fun x_9 lx_9 ux_9 ex_9 => ?_)
  have bx_9 : 0 ≤ x_9 ∧ x_9 ≤ 16 := by rw [ex_9]; exact hg.1 _ m_a0 0 10 o_a0
  have h35 := ex_9
  refine q_iald hx hb hK hw m_r_8 1 o_r_8 rfl ⟨lx_9, ux_9⟩ (by omega) (by omega) dX0_forget_38 (fun x_10 lx_10 ux_10 ex_10 => ?_)
  have h38 := ex_10
  have r38 : rg x_10 := ⟨lx_10, ux_10⟩
  refine q_iast hx hb hK hw m_r_8 1 o_r_8 rfl ⟨lx1, ux1⟩ (by omega) (by omega) dX0_forget_39 (fun H locs hw => ?_)
  have oo := o_r_8
  obtain ⟨f_11, ef_11⟩ : ∃ g : Nat → va_E, g = aU f_7 r_8 x1 (iI x_10) := ⟨_, rfl⟩
  have hX : Ex cy f_7 f_11 := by rw [ef_11]; exact Ex_aU oo
  have hg : GI cy L0 f_11 := by rw [ef_11]; exact hg.putA oo
  rw [← ef_11] at hw
  have hE := hE.trans hX
  have o_a0 := hX.1.1 _ _ o_a0
  have t_a0_10_f_11 : fI f_11 a0 10 = fI f_7 a0 10 := by rw [ef_11]; exact fI_aU oo
  have p39 := ef_11
  have oT := oo
  exact q_ret_v hx hb hr hlocks hK hAe hw (Nat.le_of_ble_eq_true rfl) (Nat.le_of_ble_eq_true rfl) dX0_forget_40 (by exact ⟨rfl, hg, hE, forget_fin oc oa0 na h2 h1 ⟨by omega, by omega⟩ (by omega) p7 k11 k16 (by omega) r23 h23 oK p24 k26 k31 (by omega) r38 h38 oT p39⟩)
set_option maxHeartbeats 4000000 in
set_option maxRecDepth 100000 in
theorem c_X0_change_o {Z : Zt} (zo : Zok Z) (l : Launch) (D : va_G) (cy : Cy) (L0 : List Nat) (f0 : Nat → va_E) (a0 : Nat) (x1 : Int) (lx1 : -2147483648 ≤ x1) (ux1 : x1 ≤ 2147483647) (x2 : Int) (lx2 : -2147483648 ≤ x2) (ux2 : x2 ≤ 2147483647) (m_a0 : a0 ∈ L0) (o_a0 : Ob f0 a0 0) (hg : GI cy L0 f0) (O : Int → Int) (oc : OC f0 a0 O) (na : KA f0 a0 ≠ TA f0 a0) (t0 : -1 ≤ x2) : Ci Z l yX0_change (Cond.code yX0_change cX0_change 4 (some .boolean) :: TB) ({ frames := 1, cells := 0, slots := 0, locals := 22 } : Room) 0 0 D (tq cy) [.ref a0, .int (iI x1), .int (iI x2)] L0 f0 (fun (r : Int) (L1 : List Nat) (f1 : Nat → va_E) => L0 = L1 ∧ GI cy L0 f1 ∧ Ex cy f0 f1 ∧ ((r = 0 ∧ O x1 = -2 ∧ 16 ≤ fI f0 a0 10 ∧ f1 = f0) ∨ (r = 1 ∧ Eo f0 f1 a0 ∧ OC f1 a0 (upO O x1 x2) ∧ ((O x1 ≠ -2 ∧ fI f1 a0 10 = fI f0 a0 10) ∨ (O x1 = -2 ∧ fI f0 a0 10 < 16 ∧ fI f1 a0 10 = fI f0 a0 10 + 1))))) := by
  refine Ci.enter (cc := cX0_change) (n := 4) rfl (plainFor_of_name (by decide)) (Nat.le_of_ble_eq_true rfl) ?_
  intro p e s m below meth c ls A hx hb hr hts hown hlocks hnm hml hK hA hAe hw hZ hl
  have hown : s.vm.findClass RX0 = some m.cls := hown
  have hl : lv_has ls 4 [(0, .ref a0), (1, .int (iI x1)), (2, .int (iI x2))] := hl
  have hN : ZN s := (zo.2.2.2.2 _ _ _ hZ).2
  have hE : Ex cy f0 f0 := Ex.refl cy f0
  have bb : 0 ≤ fI f0 a0 10 ∧ fI f0 a0 10 ≤ 16 := hg.1 _ m_a0 0 10 o_a0
  have oa0 := o_a0
  refine lv_aload_n hx hb dX0_change_0 rfl (lv_at hl 0 rfl) ?_
  refine lv_iload_n hx hb dX0_change_1 rfl (lv_at hl 1 rfl) ?_
  refine q_call_i hA hK hw (va_runV (As := [.int (iI x1)]) (rest := []) ⟨hx, hb, hml, hown, hts⟩ (c_X0_changeOf_o zo l D cy L0 f0 a0 x1 lx1 ux1 m_a0 o_a0 hg O oc _) (cwV 1 hts (gT (inV (mr26 _ (List.mem_of_getElem? (i := 15) rfl)) (mr26 _ (List.mem_of_getElem? (i := 16) rfl)) (mr26 _ (List.mem_of_getElem? (i := 17) rfl)) (mr2 _ (List.mem_of_getElem? (i := 9) rfl)) (mr26 _ (List.mem_of_getElem? (i := 18) rfl)))) rfl rfl rfl (by decide +kernel) ⟨Nat.le_of_ble_eq_true rfl, Nat.le_of_ble_eq_true rfl⟩) (Wd.preV zo hA hZ hw hK m_a0 o_a0 rfl) rfl rfl hl.1 rfl (lv_room (Nat.le_of_ble_eq_true rfl)) dX0_change_2 ⟨Nat.le_of_ble_eq_true rfl, Nat.le_of_ble_eq_true rfl⟩) (fun x_1 L1 f1 H locs lx_1 ux_1 ex_1 hw => ?_)
  obtain ⟨rfl, rfl, ex_1⟩ := ex_1
  have h2 := ex_1
  refine lv_istore_n (lv' := [(3, .int (iI x_1)), (0, .ref a0), (1, .int (iI x1)), (2, .int (iI x2))]) hx hb dX0_change_5 rfl hl (by decide) rfl (fun ls hl => ?_)
  refine lv_iload_n hx hb dX0_change_6 rfl (lv_at hl 0 rfl) ?_
  refine q_iconst hx hb dX0_change_7 ?_
  have J37 : ∀ (z3_37 : Int) (lz3_37 : -2147483648 ≤ z3_37) (uz3_37 : z3_37 ≤ 2147483647) (L : List Nat) (fw37 : Nat → va_E) (hg : GI cy L0 fw37) (hE : Ex cy f0 fw37) (o_a0 : Ob fw37 a0 0) (i1 : 0 ≤ z3_37) (i2 : z3_37 < 16) (j1 : (fw37 = f0 ∧ 0 ≤ z3_37 ∧ z3_37 < fI f0 a0 10 ∧ aI f0 (KA f0 a0) z3_37 = x1 ∧ O x1 ≠ -2) ∨ (fw37 = pU f0 a0 10 (.int (iI (z3_37 + 1))) ∧ z3_37 = fI f0 a0 10 ∧ z3_37 < 16 ∧ O x1 = -2)) (H : Heap) (locs : List Loc) (ls : Array Slot) (hw : Wd D A s.heap L0 fw37 H locs) (hl : lv_has ls 4 [(0, .ref a0), (1, .int (iI x1)), (2, .int (iI x2)), (3, .int (iI z3_37))]), W p l e ({ frames := 1, cells := 0, slots := 0, locals := 22 } : Room) s m ([.ref a0, .int (iI x1), .int (iI x2)] : List Value).toArray below meth c H locs (0 + 0) (0 + 0) (MQ below (Qi D (tq cy) L0 f0 s.heap.size (fun (r : Int) (L1 : List Nat) (f1 : Nat → va_E) => L0 = L1 ∧ GI cy L0 f1 ∧ Ex cy f0 f1 ∧ ((r = 0 ∧ O x1 = -2 ∧ 16 ≤ fI f0 a0 10 ∧ f1 = f0) ∨ (r = 1 ∧ Eo f0 f1 a0 ∧ OC f1 a0 (upO O x1 x2) ∧ ((O x1 ≠ -2 ∧ fI f1 a0 10 = fI f0 a0 10) ∨ (O x1 = -2 ∧ fI f0 a0 10 < 16 ∧ fI f1 a0 10 = fI f0 a0 10 + 1)))))) ([.ref a0, .int (iI x1), .int (iI x2)] : List Value).toArray s 0 0 A) (F0 m 37 ls []) := by
    intro z3_37 lz3_37 uz3_37 L fw37 hg hE o_a0 i1 i2 j1 H locs ls hw hl
    refine lv_aload_n hx hb dX0_change_37 rfl (lv_at hl 0 rfl) ?_
    obtain ⟨r_2, er_2, m_r_2, o_r_2⟩ := (show ∃ r, fR fw37 a0 11 = some r ∧ r ∈ L0 ∧ ArI fw37 r cy.2.1 16 from hg.2.1 _ m_a0 0 11 o_a0)
    refine q_getr (ci := 0) (C := RX0) (T := TX0) (N := 15) hx hb hts (fun w h => List.mem_cons_of_mem _ (mfX00 w h)) hown hK hw m_a0 o_a0 rfl 11 (by decide) (hts _ (List.mem_cons_of_mem _ (mr3 _ (List.mem_of_getElem? (i := 2) rfl)))) (fun _ h => h) rfl er_2 dX0_change_38 ?_
    have k38 := KA_e er_2
    refine lv_iload_n hx hb dX0_change_41 rfl (lv_at hl 3 rfl) ?_
    refine lv_iload_n hx hb dX0_change_42 rfl (lv_at hl 1 rfl) ?_
    refine q_iast hx hb hK hw m_r_2 1 o_r_2 rfl ⟨lz3_37, uz3_37⟩ (by omega) (by omega) dX0_change_43 (fun H locs hw => ?_)
    have oo := o_r_2
    obtain ⟨f_3, ef_3⟩ : ∃ g : Nat → va_E, g = aU fw37 r_2 z3_37 (iI x1) := ⟨_, rfl⟩
    have hX : Ex cy fw37 f_3 := by rw [ef_3]; exact Ex_aU oo
    have hg : GI cy L0 f_3 := by rw [ef_3]; exact hg.putA oo
    rw [← ef_3] at hw
    have hE := hE.trans hX
    have o_a0 := hX.1.1 _ _ o_a0
    have t_a0_10_f_3 : fI f_3 a0 10 = fI fw37 a0 10 := by rw [ef_3]; exact fI_aU oo
    have p43 := ef_3
    have oK := oo
    refine lv_aload_n hx hb dX0_change_44 rfl (lv_at hl 0 rfl) ?_
    obtain ⟨r_4, er_4, m_r_4, o_r_4⟩ := (show ∃ r, fR f_3 a0 12 = some r ∧ r ∈ L0 ∧ ArI f_3 r cy.2.1 16 from hg.2.1 _ m_a0 0 12 o_a0)
    refine q_getr (ci := 0) (C := RX0) (T := TX0) (N := 15) hx hb hts (fun w h => List.mem_cons_of_mem _ (mfX00 w h)) hown hK hw m_a0 o_a0 rfl 12 (by decide) (hts _ (List.mem_cons_of_mem _ (mr3 _ (List.mem_of_getElem? (i := 3) rfl)))) (fun _ h => h) rfl er_4 dX0_change_45 ?_
    have k45 := TA_e er_4
    refine lv_iload_n hx hb dX0_change_48 rfl (lv_at hl 3 rfl) ?_
    refine lv_iload_n hx hb dX0_change_49 rfl (lv_at hl 2 rfl) ?_
    refine q_iast hx hb hK hw m_r_4 1 o_r_4 rfl ⟨lz3_37, uz3_37⟩ (by omega) (by omega) dX0_change_50 (fun H locs hw => ?_)
    have oo := o_r_4
    obtain ⟨f_5, ef_5⟩ : ∃ g : Nat → va_E, g = aU f_3 r_4 z3_37 (iI x2) := ⟨_, rfl⟩
    have hX : Ex cy f_3 f_5 := by rw [ef_5]; exact Ex_aU oo
    have hg : GI cy L0 f_5 := by rw [ef_5]; exact hg.putA oo
    rw [← ef_5] at hw
    have hE := hE.trans hX
    have o_a0 := hX.1.1 _ _ o_a0
    have t_a0_10_f_5 : fI f_5 a0 10 = fI f_3 a0 10 := by rw [ef_5]; exact fI_aU oo
    have p50 := ef_5
    have oT := oo
    refine q_iconst hx hb dX0_change_51 ?_
    exact q_ret_z hx hb hr hlocks hK hAe hw (by omega) (Nat.le_of_ble_eq_true rfl) (Nat.le_of_ble_eq_true rfl) dX0_change_52 (by exact ⟨rfl, hg, hE, Or.inr ⟨by omega, change_fin oc oa0 bb na t0 ⟨lx1, ux1⟩ ⟨lx2, ux2⟩ j1 k38 oK p43 k45 oT p50⟩⟩)
  refine q_icmp_ne (tgt := 37) hx hb dX0_change_8 (by decide) ⟨lx_1, ux_1⟩ ⟨by decide, by decide⟩ (fun c8 => ?_) (fun c8 => ?_)
  · exact J37 x_1 lx_1 ux_1 L0 f0 hg hE o_a0 (by omega) (by omega) (by first | exact Or.inl ⟨rfl, ch_in h2 (by omega)⟩ | exact Or.inr ⟨by rw [p34, show x_9 = x_7 + 1 by omega], by omega, by omega, by omega⟩ | fail "none") _ _ _ hw (lv_sub hl [1, 2, 3, 0] rfl)
  · refine lv_aload_n hx hb dX0_change_11 rfl (lv_at hl 1 rfl) ?_
    refine q_geti (ci := 0) (C := RX0) (T := TX0) (N := 15) hx hb hts (fun w h => List.mem_cons_of_mem _ (mfX00 w h)) hown hK hw m_a0 o_a0 rfl 10 (by decide) (hts _ (List.mem_cons_of_mem _ (mr14 _ (List.mem_of_getElem? (i := 9) rfl)))) (fun _ h => h) rfl dX0_change_12 (fun x_6 lx_6 ux_6 ex_6 => ?_)
    have bx_6 : 0 ≤ x_6 ∧ x_6 ≤ 16 := by rw [ex_6]; exact hg.1 _ m_a0 0 10 o_a0
    refine q_bipush hx hb dX0_change_15 rfl ?_
    refine q_icmp_lt (tgt := 22) hx hb dX0_change_17 (by decide) ⟨lx_6, ux_6⟩ ⟨by decide, by decide⟩ (fun c17 => ?_) (fun c17 => ?_)
    · refine lv_aload_n hx hb dX0_change_22 rfl (lv_at hl 1 rfl) ?_
      refine q_geti (ci := 0) (C := RX0) (T := TX0) (N := 15) hx hb hts (fun w h => List.mem_cons_of_mem _ (mfX00 w h)) hown hK hw m_a0 o_a0 rfl 10 (by decide) (hts _ (List.mem_cons_of_mem _ (mr14 _ (List.mem_of_getElem? (i := 9) rfl)))) (fun _ h => h) rfl dX0_change_23 (fun x_7 lx_7 ux_7 ex_7 => ?_)
      have bx_7 : 0 ≤ x_7 ∧ x_7 ≤ 16 := by rw [ex_7]; exact hg.1 _ m_a0 0 10 o_a0
      refine lv_istore_n (lv' := [(3, .int (iI x_7)), (0, .ref a0), (1, .int (iI x1)), (2, .int (iI x2))]) hx hb dX0_change_26 rfl hl (by decide) rfl (fun ls hl => ?_)
      refine lv_aload_n hx hb dX0_change_27 rfl (lv_at hl 1 rfl) ?_
      refine lv_dup hx hb dX0_change_28 rfl ?_
      refine q_geti (ci := 0) (C := RX0) (T := TX0) (N := 15) hx hb hts (fun w h => List.mem_cons_of_mem _ (mfX00 w h)) hown hK hw m_a0 o_a0 rfl 10 (by decide) (hts _ (List.mem_cons_of_mem _ (mr14 _ (List.mem_of_getElem? (i := 9) rfl)))) (fun _ h => h) rfl dX0_change_29 (fun x_8 lx_8 ux_8 ex_8 => ?_)
      have bx_8 : 0 ≤ x_8 ∧ x_8 ≤ 16 := by rw [ex_8]; exact hg.1 _ m_a0 0 10 o_a0
      refine q_iconst hx hb dX0_change_32 ?_
      first | refine q_iadd hx hb dX0_change_33 ⟨by omega, by omega⟩ (fun x_9 lx_9 ux_9 ex_9 => ?_) | refine q_iaddw hx hb dX0_change_33 (fun x_9 lx_9 ux_9 _ => ?_)
      have h33 := ex_9
      refine q_puti (ci := 0) (C := RX0) (T := TX0) (N := 15) hx hb hts (fun w h => List.mem_cons_of_mem _ (mfX00 w h)) hown hK hw m_a0 o_a0 rfl 10 (by decide) (hts _ (List.mem_cons_of_mem _ (mr14 _ (List.mem_of_getElem? (i := 9) rfl)))) (fun _ h => h) tyX0 tyX0_ok nmX0 rfl (ty := .int) (by decide +kernel) rfl rfl dX0_change_34 (fun H locs hw => ?_)
      have oo := o_a0
      obtain ⟨f_10, ef_10⟩ : ∃ g : Nat → va_E, g = pU f0 a0 10 (.int (iI x_9)) := ⟨_, rfl⟩
      have hX : Ex cy f0 f_10 := by rw [ef_10]; exact Ex_pU oo rfl rfl (by decide)
      have hg : GI cy L0 f_10 := by rw [ef_10]; exact hg.putI oo rfl ⟨lx_9, ux_9⟩ (by show 0 ≤ x_9 ∧ x_9 ≤ 16; omega)
      rw [← ef_10] at hw
      have hE := hE.trans hX
      have o_a0 := hX.1.1 _ _ o_a0
      have vf_10 : fI f_10 a0 10 = x_9 := by rw [ef_10]; exact fI_pU_self oo rfl ⟨lx_9, ux_9⟩
      have p34 := ef_10
      exact J37 x_7 lx_7 ux_7 L0 f_10 hg hE o_a0 (by omega) (by omega) (by first | exact Or.inl ⟨rfl, ch_in h2 (by omega)⟩ | exact Or.inr ⟨by rw [p34, show x_9 = x_7 + 1 by omega], by omega, by omega, by omega⟩ | fail "none") _ _ _ hw (lv_sub hl [1, 2, 3, 0] rfl)
    · refine q_iconst hx hb dX0_change_20 ?_
      exact q_ret_z hx hb hr hlocks hK hAe hw (by omega) (Nat.le_of_ble_eq_true rfl) (Nat.le_of_ble_eq_true rfl) dX0_change_21 (by exact ⟨rfl, hg, hE, Or.inl ⟨by omega, by omega, by omega, rfl⟩⟩)
set_option maxHeartbeats 4000000 in
set_option maxRecDepth 100000 in
theorem c_X0_undoChange_o {Z : Zt} (zo : Zok Z) (l : Launch) (D : va_G) (cy : Cy) (L0 : List Nat) (f0 : Nat → va_E) (a0 : Nat) (x1 : Int) (lx1 : -2147483648 ≤ x1) (ux1 : x1 ≤ 2147483647) (m_a0 : a0 ∈ L0) (o_a0 : Ob f0 a0 0) (hg : GI cy L0 f0) (O : Int → Int) (oc : OC f0 a0 O) (na : KA f0 a0 ≠ TA f0 a0) : Ci Z l yX0_undoChange (Cond.code yX0_undoChange cX0_undoChange 4 (some .int) :: TB) ({ frames := 1, cells := 0, slots := 0, locals := 22 } : Room) 0 0 D (tq cy) [.ref a0, .int (iI x1)] L0 f0 (fun (r : Int) (L1 : List Nat) (f1 : Nat → va_E) => L0 = L1 ∧ GI cy L0 f1 ∧ Ex cy f0 f1 ∧ ((r = 0 ∧ O x1 = -2 ∧ f1 = f0) ∨ (((r = 1 ∧ O x1 = -1) ∨ (r = 2 ∧ 0 ≤ O x1)) ∧ Eo f0 f1 a0 ∧ OC f1 a0 (upO O x1 (-2)) ∧ fI f1 a0 10 = fI f0 a0 10 - 1))) := by
  refine Ci.enter (cc := cX0_undoChange) (n := 4) rfl (plainFor_of_name (by decide)) (Nat.le_of_ble_eq_true rfl) ?_
  intro p e s m below meth c ls A hx hb hr hts hown hlocks hnm hml hK hA hAe hw hZ hl
  have hown : s.vm.findClass RX0 = some m.cls := hown
  have hl : lv_has ls 4 [(0, .ref a0), (1, .int (iI x1))] := hl
  have hN : ZN s := (zo.2.2.2.2 _ _ _ hZ).2
  have hE : Ex cy f0 f0 := Ex.refl cy f0
  have bb : 0 ≤ fI f0 a0 10 ∧ fI f0 a0 10 ≤ 16 := hg.1 _ m_a0 0 10 o_a0
  refine lv_aload_n hx hb dX0_undoChange_0 rfl (lv_at hl 0 rfl) ?_
  refine lv_iload_n hx hb dX0_undoChange_1 rfl (lv_at hl 1 rfl) ?_
  refine q_call_i hA hK hw (va_runV (As := [.int (iI x1)]) (rest := []) ⟨hx, hb, hml, hown, hts⟩ (c_X0_changeOf_o zo l D cy L0 f0 a0 x1 lx1 ux1 m_a0 o_a0 hg O oc _) (cwV 1 hts (gT (inV (mr26 _ (List.mem_of_getElem? (i := 15) rfl)) (mr26 _ (List.mem_of_getElem? (i := 16) rfl)) (mr26 _ (List.mem_of_getElem? (i := 17) rfl)) (mr2 _ (List.mem_of_getElem? (i := 9) rfl)) (mr26 _ (List.mem_of_getElem? (i := 18) rfl)))) rfl rfl rfl (by decide +kernel) ⟨Nat.le_of_ble_eq_true rfl, Nat.le_of_ble_eq_true rfl⟩) (Wd.preV zo hA hZ hw hK m_a0 o_a0 rfl) rfl rfl hl.1 rfl (lv_room (Nat.le_of_ble_eq_true rfl)) dX0_undoChange_2 ⟨Nat.le_of_ble_eq_true rfl, Nat.le_of_ble_eq_true rfl⟩) (fun x_1 L1 f1 H locs lx_1 ux_1 ex_1 hw => ?_)
  obtain ⟨rfl, rfl, ex_1⟩ := ex_1
  have h2 := ex_1
  have lo := OdR.lo oc x1
  refine lv_istore_n (lv' := [(2, .int (iI x_1)), (0, .ref a0), (1, .int (iI x1))]) hx hb dX0_undoChange_5 rfl hl (by decide) rfl (fun ls hl => ?_)
  refine lv_iload_n hx hb dX0_undoChange_6 rfl (lv_at hl 0 rfl) ?_
  refine q_iconst hx hb dX0_undoChange_7 ?_
  refine q_icmp_ne (tgt := 13) hx hb dX0_undoChange_8 (by decide) ⟨lx_1, ux_1⟩ ⟨by decide, by decide⟩ (fun c8 => ?_) (fun c8 => ?_)
  · refine lv_aload_n hx hb dX0_undoChange_13 rfl (lv_at hl 1 rfl) ?_
    obtain ⟨r_2, er_2, m_r_2, o_r_2⟩ := (show ∃ r, fR f0 a0 12 = some r ∧ r ∈ L0 ∧ ArI f0 r cy.2.1 16 from hg.2.1 _ m_a0 0 12 o_a0)
    refine q_getr (ci := 0) (C := RX0) (T := TX0) (N := 15) hx hb hts (fun w h => List.mem_cons_of_mem _ (mfX00 w h)) hown hK hw m_a0 o_a0 rfl 12 (by decide) (hts _ (List.mem_cons_of_mem _ (mr3 _ (List.mem_of_getElem? (i := 3) rfl)))) (fun _ h => h) rfl er_2 dX0_undoChange_14 ?_
    have et := TA_e er_2
    refine lv_iload_n hx hb dX0_undoChange_17 rfl (lv_at hl 0 rfl) ?_
    refine q_iald hx hb hK hw m_r_2 1 o_r_2 rfl ⟨lx_1, ux_1⟩ (by omega) (by omega) dX0_undoChange_18 (fun x_3 lx_3 ux_3 ex_3 => ?_)
    have h18 : x_3 = aI f0 (TA f0 a0) x_1 := ex_3.trans (by rw [et])
    refine q_iconst hx hb dX0_undoChange_19 ?_
    refine q_icmp_ne (tgt := 27) hx hb dX0_undoChange_20 (by decide) ⟨lx_3, ux_3⟩ ⟨by decide, by decide⟩ (fun c20 => ?_) (fun c20 => ?_)
    · refine q_iconst hx hb dX0_undoChange_27 ?_
      refine lv_istore_n (lv' := [(3, .int (iI 2)), (2, .int (iI x_1)), (0, .ref a0), (1, .int (iI x1))]) hx hb dX0_undoChange_28 rfl hl (by decide) rfl (fun ls hl => ?_)
      refine lv_aload_n hx hb dX0_undoChange_29 rfl (lv_at hl 2 rfl) ?_
      refine lv_iload_n hx hb dX0_undoChange_30 rfl (lv_at hl 1 rfl) ?_
      refine q_call_v hA hK hw (va_runV (As := [.int (iI x_1)]) (rest := []) ⟨hx, hb, hml, hown, hts⟩ (c_X0_forget_o zo l D cy L0 f0 a0 x_1 lx_1 ux_1 m_a0 o_a0 hg O oc na (by omega) (by omega) _) (cwV 1 hts (gT (inV (mr28 _ (List.mem_of_getElem? (i := 15) rfl)) (mr28 _ (List.mem_of_getElem? (i := 16) rfl)) (mr28 _ (List.mem_of_getElem? (i := 17) rfl)) (mr2 _ (List.mem_of_getElem? (i := 9) rfl)) (mr28 _ (List.mem_of_getElem? (i := 18) rfl)))) rfl rfl rfl (by decide +kernel) ⟨Nat.le_of_ble_eq_true rfl, Nat.le_of_ble_eq_true rfl⟩) (Wd.preV zo hA hZ hw hK m_a0 o_a0 rfl) rfl rfl hl.1 rfl (lv_room (Nat.le_of_ble_eq_true rfl)) dX0_undoChange_31 ⟨Nat.le_of_ble_eq_true rfl, Nat.le_of_ble_eq_true rfl⟩) (fun L1 f_5 H locs ex_4 hw => ?_)
      obtain ⟨rfl, hg, hX, ex_4⟩ := ex_4
      have hE := hE.trans hX
      have o_a0 := hX.1.1 _ _ o_a0
      have h31 := ex_4
      refine lv_iload_n hx hb dX0_undoChange_34 rfl (lv_at hl 0 rfl) ?_
      exact q_ret_i hx hb hr hlocks hK hAe hw ⟨by decide, by decide⟩ (Nat.le_of_ble_eq_true rfl) (Nat.le_of_ble_eq_true rfl) dX0_undoChange_35 (by exact ⟨rfl, hg, hE, Or.inr ⟨by omega, h31.1, oc_key h31.2.1 (ch_key h2 (by omega)), h31.2.2.1⟩⟩)
    · refine q_iconst hx hb dX0_undoChange_23 ?_
      refine lv_goto (tgt := 28) hx hb dX0_undoChange_24 (by decide) ?_
      refine lv_istore_n (lv' := [(3, .int (iI 1)), (2, .int (iI x_1)), (0, .ref a0), (1, .int (iI x1))]) hx hb dX0_undoChange_28 rfl hl (by decide) rfl (fun ls hl => ?_)
      refine lv_aload_n hx hb dX0_undoChange_29 rfl (lv_at hl 2 rfl) ?_
      refine lv_iload_n hx hb dX0_undoChange_30 rfl (lv_at hl 1 rfl) ?_
      refine q_call_v hA hK hw (va_runV (As := [.int (iI x_1)]) (rest := []) ⟨hx, hb, hml, hown, hts⟩ (c_X0_forget_o zo l D cy L0 f0 a0 x_1 lx_1 ux_1 m_a0 o_a0 hg O oc na (by omega) (by omega) _) (cwV 1 hts (gT (inV (mr28 _ (List.mem_of_getElem? (i := 15) rfl)) (mr28 _ (List.mem_of_getElem? (i := 16) rfl)) (mr28 _ (List.mem_of_getElem? (i := 17) rfl)) (mr2 _ (List.mem_of_getElem? (i := 9) rfl)) (mr28 _ (List.mem_of_getElem? (i := 18) rfl)))) rfl rfl rfl (by decide +kernel) ⟨Nat.le_of_ble_eq_true rfl, Nat.le_of_ble_eq_true rfl⟩) (Wd.preV zo hA hZ hw hK m_a0 o_a0 rfl) rfl rfl hl.1 rfl (lv_room (Nat.le_of_ble_eq_true rfl)) dX0_undoChange_31 ⟨Nat.le_of_ble_eq_true rfl, Nat.le_of_ble_eq_true rfl⟩) (fun L1 f_7 H locs ex_6 hw => ?_)
      obtain ⟨rfl, hg, hX, ex_6⟩ := ex_6
      have hE := hE.trans hX
      have o_a0 := hX.1.1 _ _ o_a0
      have h31 := ex_6
      refine lv_iload_n hx hb dX0_undoChange_34 rfl (lv_at hl 0 rfl) ?_
      exact q_ret_i hx hb hr hlocks hK hAe hw ⟨by decide, by decide⟩ (Nat.le_of_ble_eq_true rfl) (Nat.le_of_ble_eq_true rfl) dX0_undoChange_35 (by exact ⟨rfl, hg, hE, Or.inr ⟨by omega, h31.1, oc_key h31.2.1 (ch_key h2 (by omega)), h31.2.2.1⟩⟩)
  · refine q_iconst hx hb dX0_undoChange_11 ?_
    exact q_ret_i hx hb hr hlocks hK hAe hw ⟨by decide, by decide⟩ (Nat.le_of_ble_eq_true rfl) (Nat.le_of_ble_eq_true rfl) dX0_undoChange_12 (by exact ⟨rfl, hg, hE, Or.inl ⟨by omega, by omega, rfl⟩⟩)
set_option maxHeartbeats 4000000 in
set_option maxRecDepth 100000 in
theorem c_X9_drop_o {Z : Zt} (zo : Zok Z) (l : Launch) (D : va_G) (cy : Cy) (L0 : List Nat) (f0 : Nat → va_E) (a0 : Nat) (x1 : Int) (lx1 : -2147483648 ≤ x1) (ux1 : x1 ≤ 2147483647) (x2 : Int) (lx2 : -2147483648 ≤ x2) (ux2 : x2 ≤ 2147483647) (m_a0 : a0 ∈ L0) (o_a0 : Ob f0 a0 7) (hg : GI cy L0 f0) (rq : Int → Nat) (g : Int → Int) (mm : Int) (sx : SX f0 a0 rq g mm) (O : Int → Int) (oc : 0 ≤ x1 ∧ x1 < mm → OC f0 (rq x1) O) (na : 0 ≤ x1 ∧ x1 < mm → KA f0 (rq x1) ≠ TA f0 (rq x1)) : Ci Z l yX9_drop (Cond.code yX9_drop cX9_drop 4 (some .boolean) :: TB) ({ frames := 5, cells := 0, slots := 0, locals := 111 } : Room) 0 0 D (tq cy) [.ref a0, .int (iI x1), .int (iI x2)] L0 f0 (fun (r : Int) (L1 : List Nat) (f1 : Nat → va_E) => L0 = L1 ∧ GI cy L0 f1 ∧ Ex cy f0 f1 ∧ ((r = 0 ∧ (¬ (0 ≤ x1 ∧ x1 < mm) ∨ ¬ (0 ≤ x2 ∧ x2 ≤ 36524 ∧ KG g (44 * x1) x2) ∨ O x2 = -1 ∨ (O x2 = -2 ∧ 16 ≤ fI f0 (rq x1) 10)) ∧ f1 = f0) ∨ (r = 1 ∧ (0 ≤ x1 ∧ x1 < mm) ∧ (0 ≤ x2 ∧ x2 ≤ 36524 ∧ KG g (44 * x1) x2) ∧ O x2 ≠ -1 ∧ Eo f0 f1 (rq x1) ∧ OC f1 (rq x1) (upO O x2 (-1)) ∧ ((O x2 ≠ -2 ∧ fI f1 (rq x1) 10 = fI f0 (rq x1) 10) ∨ (O x2 = -2 ∧ fI f0 (rq x1) 10 < 16 ∧ fI f1 (rq x1) 10 = fI f0 (rq x1) 10 + 1))))) := by
  refine Ci.enter (cc := cX9_drop) (n := 4) rfl (plainFor_of_name (by decide)) (Nat.le_of_ble_eq_true rfl) ?_
  intro p e s m below meth c ls A hx hb hr hts hown hlocks hnm hml hK hA hAe hw hZ hl
  have hown : s.vm.findClass RX9 = some m.cls := hown
  have hl : lv_has ls 4 [(0, .ref a0), (1, .int (iI x1)), (2, .int (iI x2))] := hl
  have hN : ZN s := (zo.2.2.2.2 _ _ _ hZ).2
  have hE : Ex cy f0 f0 := Ex.refl cy f0
  refine lv_aload_n hx hb dX9_drop_0 rfl (lv_at hl 0 rfl) ?_
  obtain ⟨r_1, er_1, m_r_1, o_r_1⟩ := (show ∃ r, fR f0 a0 2 = some r ∧ r ∈ L0 ∧ Ob f0 r 5 from hg.2.1 _ m_a0 7 2 o_a0)
  refine q_getr (ci := 7) (C := RX9) (T := TX9) (N := 4) hx hb hts (fun w h => List.mem_cons_of_mem _ (mfX90 w h)) hown hK hw m_a0 o_a0 rfl 2 (by decide) (hts _ (List.mem_cons_of_mem _ (mr1 _ (List.mem_of_getElem? (i := 20) rfl)))) (fun _ h => h) rfl er_1 dX9_drop_1 ?_
  have s1 := sx.at er_1
  refine lv_iload_n hx hb dX9_drop_4 rfl (lv_at hl 1 rfl) ?_
  refine q_call_i hA hK hw (va_runV (As := [.int (iI x1)]) (rest := []) ⟨hx, hb, hml, hown, hts⟩ (c_X7_has_f zo l D cy L0 f0 r_1 x1 lx1 ux1 m_r_1 o_r_1 hg _) (cwV 1 hts (gT (inV (mr22 _ (List.mem_of_getElem? (i := 9) rfl)) (mr22 _ (List.mem_of_getElem? (i := 10) rfl)) (mr22 _ (List.mem_of_getElem? (i := 11) rfl)) (mr1 _ (List.mem_of_getElem? (i := 19) rfl)) (mr22 _ (List.mem_of_getElem? (i := 12) rfl)))) rfl rfl rfl (by decide +kernel) ⟨Nat.le_of_ble_eq_true rfl, Nat.le_of_ble_eq_true rfl⟩) (Wd.preV zo hA hZ hw hK m_r_1 o_r_1 rfl) rfl rfl hl.1 rfl (lv_room (Nat.le_of_ble_eq_true rfl)) dX9_drop_5 ⟨Nat.le_of_ble_eq_true rfl, Nat.le_of_ble_eq_true rfl⟩) (fun x_2 L1 f1 H locs lx_2 ux_2 ex_2 hw => ?_)
  obtain ⟨rfl, rfl, ex_2⟩ := ex_2
  refine q_if_eq (tgt := 26) hx hb dX9_drop_8 (by decide) ⟨lx_2, ux_2⟩ (fun c8 => ?_) (fun c8 => ?_)
  · refine q_iconst hx hb dX9_drop_26 ?_
    exact q_ret_z hx hb hr hlocks hK hAe hw (by omega) (Nat.le_of_ble_eq_true rfl) (Nat.le_of_ble_eq_true rfl) dX9_drop_27 (by exact ⟨rfl, hg, hE, Or.inl ⟨by omega, by first | exact Or.inl (by omega) | exact Or.inr (Or.inl (ik_no h20 (by omega))) | fail "none", rfl⟩⟩)
  · refine lv_aload_n hx hb dX9_drop_11 rfl (lv_at hl 0 rfl) ?_
    refine q_getr (ci := 7) (C := RX9) (T := TX9) (N := 4) hx hb hts (fun w h => List.mem_cons_of_mem _ (mfX90 w h)) hown hK hw m_a0 o_a0 rfl 2 (by decide) (hts _ (List.mem_cons_of_mem _ (mr1 _ (List.mem_of_getElem? (i := 20) rfl)))) (fun _ h => h) rfl er_1 dX9_drop_12 ?_
    have s1 := sx.at er_1
    refine lv_iload_n hx hb dX9_drop_15 rfl (lv_at hl 1 rfl) ?_
    refine q_call_r hA hK hw (va_runV (As := [.int (iI x1)]) (rest := []) ⟨hx, hb, hml, hown, hts⟩ (c_X7_at_f zo l D cy L0 f0 r_1 x1 lx1 ux1 m_r_1 o_r_1 hg (by omega) (by omega) _) (cwV 1 hts (gT (inV (mr24 _ (List.mem_of_getElem? (i := 8) rfl)) (mr24 _ (List.mem_of_getElem? (i := 9) rfl)) (mr24 _ (List.mem_of_getElem? (i := 10) rfl)) (mr1 _ (List.mem_of_getElem? (i := 19) rfl)) (mr24 _ (List.mem_of_getElem? (i := 11) rfl)))) rfl rfl rfl (by decide +kernel) ⟨Nat.le_of_ble_eq_true rfl, Nat.le_of_ble_eq_true rfl⟩) (Wd.preV zo hA hZ hw hK m_r_1 o_r_1 rfl) rfl rfl hl.1 rfl (lv_room (Nat.le_of_ble_eq_true rfl)) dX9_drop_16 ⟨Nat.le_of_ble_eq_true rfl, Nat.le_of_ble_eq_true rfl⟩) (fun x_3 L1 f1 H locs ex_3 hw => ?_)
    obtain ⟨rfl, rfl, ex_3⟩ := ex_3
    obtain ⟨m_x_3, o_x_3, ex_3⟩ := ex_3
    have rb := s1.1.rb ex_3 (by omega) (by omega) (by omega)
    refine lv_iload_n hx hb dX9_drop_19 rfl (lv_at hl 2 rfl) ?_
    refine q_call_i hA hK hw (va_runV (As := [.int (iI x2)]) (rest := []) ⟨hx, hb, hml, hown, hts⟩ (c_X0_isKey_g zo l D cy L0 f0 x_3 x2 lx2 ux2 m_x_3 o_x_3 hg g (44 * x1) rb _) (cwV 1 hts (gT (inV (mr26 _ (List.mem_of_getElem? (i := 6) rfl)) (mr26 _ (List.mem_of_getElem? (i := 7) rfl)) (mr26 _ (List.mem_of_getElem? (i := 8) rfl)) (mr2 _ (List.mem_of_getElem? (i := 9) rfl)) (mr26 _ (List.mem_of_getElem? (i := 9) rfl)))) rfl rfl rfl (by decide +kernel) ⟨Nat.le_of_ble_eq_true rfl, Nat.le_of_ble_eq_true rfl⟩) (Wd.preV zo hA hZ hw hK m_x_3 o_x_3 rfl) rfl rfl hl.1 rfl (lv_room (Nat.le_of_ble_eq_true rfl)) dX9_drop_20 ⟨Nat.le_of_ble_eq_true rfl, Nat.le_of_ble_eq_true rfl⟩) (fun x_4 L1 f1 H locs lx_4 ux_4 ex_4 hw => ?_)
    obtain ⟨rfl, rfl, ex_4⟩ := ex_4
    have h20 := ex_4
    refine q_if_ne (tgt := 28) hx hb dX9_drop_23 (by decide) ⟨lx_4, ux_4⟩ (fun c23 => ?_) (fun c23 => ?_)
    · refine lv_aload_n hx hb dX9_drop_28 rfl (lv_at hl 0 rfl) ?_
      refine q_getr (ci := 7) (C := RX9) (T := TX9) (N := 4) hx hb hts (fun w h => List.mem_cons_of_mem _ (mfX90 w h)) hown hK hw m_a0 o_a0 rfl 2 (by decide) (hts _ (List.mem_cons_of_mem _ (mr1 _ (List.mem_of_getElem? (i := 20) rfl)))) (fun _ h => h) rfl er_1 dX9_drop_29 ?_
      have s1 := sx.at er_1
      refine lv_iload_n hx hb dX9_drop_32 rfl (lv_at hl 1 rfl) ?_
      refine q_call_r hA hK hw (va_runV (As := [.int (iI x1)]) (rest := []) ⟨hx, hb, hml, hown, hts⟩ (c_X7_at_f zo l D cy L0 f0 r_1 x1 lx1 ux1 m_r_1 o_r_1 hg (by omega) (by omega) _) (cwV 1 hts (gT (inV (mr24 _ (List.mem_of_getElem? (i := 8) rfl)) (mr24 _ (List.mem_of_getElem? (i := 9) rfl)) (mr24 _ (List.mem_of_getElem? (i := 10) rfl)) (mr1 _ (List.mem_of_getElem? (i := 19) rfl)) (mr24 _ (List.mem_of_getElem? (i := 11) rfl)))) rfl rfl rfl (by decide +kernel) ⟨Nat.le_of_ble_eq_true rfl, Nat.le_of_ble_eq_true rfl⟩) (Wd.preV zo hA hZ hw hK m_r_1 o_r_1 rfl) rfl rfl hl.1 rfl (lv_room (Nat.le_of_ble_eq_true rfl)) dX9_drop_33 ⟨Nat.le_of_ble_eq_true rfl, Nat.le_of_ble_eq_true rfl⟩) (fun x_5 L1 f1 H locs ex_5 hw => ?_)
      obtain ⟨rfl, rfl, ex_5⟩ := ex_5
      obtain ⟨m_x_5, o_x_5, ex_5⟩ := ex_5
      have gx := s1.1.row ex_5 (by omega) (by omega)
      refine lv_astore_n (lv' := [(3, .ref x_5), (0, .ref a0), (1, .int (iI x1)), (2, .int (iI x2))]) hx hb dX9_drop_36 rfl hl (by decide) rfl (fun ls hl => ?_)
      refine lv_aload_n hx hb dX9_drop_37 rfl (lv_at hl 0 rfl) ?_
      refine lv_iload_n hx hb dX9_drop_38 rfl (lv_at hl 3 rfl) ?_
      refine q_call_i hA hK hw (va_runV (As := [.int (iI x2)]) (rest := []) ⟨hx, hb, hml, hown, hts⟩ (c_X0_isDropped_o zo l D cy L0 f0 x_5 x2 lx2 ux2 m_x_5 o_x_5 hg O (by rw [gx]; exact oc ⟨by omega, by omega⟩) _) (cwV 1 hts (gT (inV (mr26 _ (List.mem_of_getElem? (i := 11) rfl)) (mr26 _ (List.mem_of_getElem? (i := 12) rfl)) (mr26 _ (List.mem_of_getElem? (i := 13) rfl)) (mr2 _ (List.mem_of_getElem? (i := 9) rfl)) (mr26 _ (List.mem_of_getElem? (i := 14) rfl)))) rfl rfl rfl (by decide +kernel) ⟨Nat.le_of_ble_eq_true rfl, Nat.le_of_ble_eq_true rfl⟩) (Wd.preV zo hA hZ hw hK m_x_5 o_x_5 rfl) rfl rfl hl.1 rfl (lv_room (Nat.le_of_ble_eq_true rfl)) dX9_drop_39 ⟨Nat.le_of_ble_eq_true rfl, Nat.le_of_ble_eq_true rfl⟩) (fun x_6 L1 f1 H locs lx_6 ux_6 ex_6 hw => ?_)
      obtain ⟨rfl, rfl, ex_6⟩ := ex_6
      have h39 := ex_6
      refine q_if_ne (tgt := 58) hx hb dX9_drop_42 (by decide) ⟨lx_6, ux_6⟩ (fun c42 => ?_) (fun c42 => ?_)
      · refine q_iconst hx hb dX9_drop_58 ?_
        exact q_ret_z hx hb hr hlocks hK hAe hw (by omega) (Nat.le_of_ble_eq_true rfl) (Nat.le_of_ble_eq_true rfl) dX9_drop_59 (by first | exact ⟨rfl, hg, hE, Or.inl ⟨by omega, Or.inr (Or.inr (Or.inl (by omega))), rfl⟩⟩ | exact ⟨rfl, hg, hE, Or.inl ⟨by omega, Or.inr (Or.inr (Or.inr ⟨(or_0 h48 (by omega)).1, (or_0 h48 (by omega)).2.1⟩)), (or_0 h48 (by omega)).2.2⟩⟩ | exact ⟨rfl, hg, hE, Or.inr ⟨by omega, ⟨by omega, by omega⟩, ik_yes h20 (by omega), by omega, or_1 h48 (by omega)⟩⟩ | fail "none")
      · refine lv_aload_n hx hb dX9_drop_45 rfl (lv_at hl 0 rfl) ?_
        refine lv_iload_n hx hb dX9_drop_46 rfl (lv_at hl 3 rfl) ?_
        refine q_iconst hx hb dX9_drop_47 ?_
        refine q_call_i hA hK hw (va_runV (As := [.int (iI x2), .int (iI ((-1)))]) (rest := []) ⟨hx, hb, hml, hown, hts⟩ (c_X0_change_o zo l D cy L0 f0 x_5 x2 lx2 ux2 ((-1)) (by decide) (by decide) m_x_5 o_x_5 hg O (by rw [gx]; exact oc ⟨by omega, by omega⟩) (by rw [gx]; exact na ⟨by omega, by omega⟩) (by omega) _) (cwV 2 hts (gT (inV (mr26 _ (List.mem_of_getElem? (i := 19) rfl)) (mr26 _ (List.mem_of_getElem? (i := 20) rfl)) (mr26 _ (List.mem_of_getElem? (i := 21) rfl)) (mr2 _ (List.mem_of_getElem? (i := 9) rfl)) (mr26 _ (List.mem_of_getElem? (i := 22) rfl)))) rfl rfl rfl (by decide +kernel) ⟨Nat.le_of_ble_eq_true rfl, Nat.le_of_ble_eq_true rfl⟩) (Wd.preV zo hA hZ hw hK m_x_5 o_x_5 rfl) rfl rfl hl.1 rfl (lv_room (Nat.le_of_ble_eq_true rfl)) dX9_drop_48 ⟨Nat.le_of_ble_eq_true rfl, Nat.le_of_ble_eq_true rfl⟩) (fun x_7 L1 f_8 H locs lx_7 ux_7 ex_7 hw => ?_)
        obtain ⟨rfl, hg, hX, ex_7⟩ := ex_7
        have hE := hE.trans hX
        have o_x_5 := hX.1.1 _ _ o_x_5
        have o_a0 := hX.1.1 _ _ o_a0
        have h48 := ex_7
        rw [gx] at h48
        refine q_if_eq (tgt := 58) hx hb dX9_drop_51 (by decide) ⟨lx_7, ux_7⟩ (fun c51 => ?_) (fun c51 => ?_)
        · refine q_iconst hx hb dX9_drop_58 ?_
          exact q_ret_z hx hb hr hlocks hK hAe hw (by omega) (Nat.le_of_ble_eq_true rfl) (Nat.le_of_ble_eq_true rfl) dX9_drop_59 (by first | exact ⟨rfl, hg, hE, Or.inl ⟨by omega, Or.inr (Or.inr (Or.inl (by omega))), rfl⟩⟩ | exact ⟨rfl, hg, hE, Or.inl ⟨by omega, Or.inr (Or.inr (Or.inr ⟨(or_0 h48 (by omega)).1, (or_0 h48 (by omega)).2.1⟩)), (or_0 h48 (by omega)).2.2⟩⟩ | exact ⟨rfl, hg, hE, Or.inr ⟨by omega, ⟨by omega, by omega⟩, ik_yes h20 (by omega), by omega, or_1 h48 (by omega)⟩⟩ | fail "none")
        · refine q_iconst hx hb dX9_drop_54 ?_
          refine lv_goto (tgt := 59) hx hb dX9_drop_55 (by decide) ?_
          exact q_ret_z hx hb hr hlocks hK hAe hw (by omega) (Nat.le_of_ble_eq_true rfl) (Nat.le_of_ble_eq_true rfl) dX9_drop_59 (by first | exact ⟨rfl, hg, hE, Or.inl ⟨by omega, Or.inr (Or.inr (Or.inl (by omega))), rfl⟩⟩ | exact ⟨rfl, hg, hE, Or.inl ⟨by omega, Or.inr (Or.inr (Or.inr ⟨(or_0 h48 (by omega)).1, (or_0 h48 (by omega)).2.1⟩)), (or_0 h48 (by omega)).2.2⟩⟩ | exact ⟨rfl, hg, hE, Or.inr ⟨by omega, ⟨by omega, by omega⟩, ik_yes h20 (by omega), by omega, or_1 h48 (by omega)⟩⟩ | fail "none")
    · refine q_iconst hx hb dX9_drop_26 ?_
      exact q_ret_z hx hb hr hlocks hK hAe hw (by omega) (Nat.le_of_ble_eq_true rfl) (Nat.le_of_ble_eq_true rfl) dX9_drop_27 (by exact ⟨rfl, hg, hE, Or.inl ⟨by omega, by first | exact Or.inl (by omega) | exact Or.inr (Or.inl (ik_no h20 (by omega))) | fail "none", rfl⟩⟩)
set_option maxHeartbeats 4000000 in
set_option maxRecDepth 100000 in
theorem c_X9_move_o {Z : Zt} (zo : Zok Z) (l : Launch) (D : va_G) (cy : Cy) (L0 : List Nat) (f0 : Nat → va_E) (a0 : Nat) (x1 : Int) (lx1 : -2147483648 ≤ x1) (ux1 : x1 ≤ 2147483647) (x2 : Int) (lx2 : -2147483648 ≤ x2) (ux2 : x2 ≤ 2147483647) (x3 : Int) (lx3 : -2147483648 ≤ x3) (ux3 : x3 ≤ 2147483647) (m_a0 : a0 ∈ L0) (o_a0 : Ob f0 a0 7) (hg : GI cy L0 f0) (rq : Int → Nat) (g : Int → Int) (mm : Int) (sx : SX f0 a0 rq g mm) (O : Int → Int) (oc : 0 ≤ x1 ∧ x1 < mm → OC f0 (rq x1) O) (na : 0 ≤ x1 ∧ x1 < mm → KA f0 (rq x1) ≠ TA f0 (rq x1)) : Ci Z l yX9_move (Cond.code yX9_move cX9_move 4 (some .boolean) :: TB) ({ frames := 5, cells := 0, slots := 0, locals := 111 } : Room) 0 0 D (tq cy) [.ref a0, .int (iI x1), .int (iI x2), .int (iI x3)] L0 f0 (fun (r : Int) (L1 : List Nat) (f1 : Nat → va_E) => L0 = L1 ∧ GI cy L0 f1 ∧ Ex cy f0 f1 ∧ ((r = 0 ∧ (¬ (0 ≤ x1 ∧ x1 < mm) ∨ ¬ (0 ≤ x2 ∧ x2 ≤ 36524 ∧ KG g (44 * x1) x2) ∨ (x3 < 0 ∨ 52595999 < x3) ∨ (O x2 = -2 ∧ 16 ≤ fI f0 (rq x1) 10)) ∧ f1 = f0) ∨ (r = 1 ∧ (0 ≤ x1 ∧ x1 < mm) ∧ (0 ≤ x2 ∧ x2 ≤ 36524 ∧ KG g (44 * x1) x2) ∧ (0 ≤ x3 ∧ x3 ≤ 52595999) ∧ Eo f0 f1 (rq x1) ∧ OC f1 (rq x1) (upO O x2 x3) ∧ ((O x2 ≠ -2 ∧ fI f1 (rq x1) 10 = fI f0 (rq x1) 10) ∨ (O x2 = -2 ∧ fI f0 (rq x1) 10 < 16 ∧ fI f1 (rq x1) 10 = fI f0 (rq x1) 10 + 1))))) := by
  refine Ci.enter (cc := cX9_move) (n := 4) rfl (plainFor_of_name (by decide)) (Nat.le_of_ble_eq_true rfl) ?_
  intro p e s m below meth c ls A hx hb hr hts hown hlocks hnm hml hK hA hAe hw hZ hl
  have hown : s.vm.findClass RX9 = some m.cls := hown
  have hl : lv_has ls 4 [(0, .ref a0), (1, .int (iI x1)), (2, .int (iI x2)), (3, .int (iI x3))] := hl
  have hN : ZN s := (zo.2.2.2.2 _ _ _ hZ).2
  have hE : Ex cy f0 f0 := Ex.refl cy f0
  refine lv_aload_n hx hb dX9_move_0 rfl (lv_at hl 0 rfl) ?_
  obtain ⟨r_1, er_1, m_r_1, o_r_1⟩ := (show ∃ r, fR f0 a0 2 = some r ∧ r ∈ L0 ∧ Ob f0 r 5 from hg.2.1 _ m_a0 7 2 o_a0)
  refine q_getr (ci := 7) (C := RX9) (T := TX9) (N := 4) hx hb hts (fun w h => List.mem_cons_of_mem _ (mfX90 w h)) hown hK hw m_a0 o_a0 rfl 2 (by decide) (hts _ (List.mem_cons_of_mem _ (mr1 _ (List.mem_of_getElem? (i := 20) rfl)))) (fun _ h => h) rfl er_1 dX9_move_1 ?_
  have s1 := sx.at er_1
  refine lv_iload_n hx hb dX9_move_4 rfl (lv_at hl 1 rfl) ?_
  refine q_call_i hA hK hw (va_runV (As := [.int (iI x1)]) (rest := []) ⟨hx, hb, hml, hown, hts⟩ (c_X7_has_f zo l D cy L0 f0 r_1 x1 lx1 ux1 m_r_1 o_r_1 hg _) (cwV 1 hts (gT (inV (mr22 _ (List.mem_of_getElem? (i := 9) rfl)) (mr22 _ (List.mem_of_getElem? (i := 10) rfl)) (mr22 _ (List.mem_of_getElem? (i := 11) rfl)) (mr1 _ (List.mem_of_getElem? (i := 19) rfl)) (mr22 _ (List.mem_of_getElem? (i := 12) rfl)))) rfl rfl rfl (by decide +kernel) ⟨Nat.le_of_ble_eq_true rfl, Nat.le_of_ble_eq_true rfl⟩) (Wd.preV zo hA hZ hw hK m_r_1 o_r_1 rfl) rfl rfl hl.1 rfl (lv_room (Nat.le_of_ble_eq_true rfl)) dX9_move_5 ⟨Nat.le_of_ble_eq_true rfl, Nat.le_of_ble_eq_true rfl⟩) (fun x_2 L1 f1 H locs lx_2 ux_2 ex_2 hw => ?_)
  obtain ⟨rfl, rfl, ex_2⟩ := ex_2
  refine q_if_eq (tgt := 33) hx hb dX9_move_8 (by decide) ⟨lx_2, ux_2⟩ (fun c8 => ?_) (fun c8 => ?_)
  · refine q_iconst hx hb dX9_move_33 ?_
    exact q_ret_z hx hb hr hlocks hK hAe hw (by omega) (Nat.le_of_ble_eq_true rfl) (Nat.le_of_ble_eq_true rfl) dX9_move_34 (by exact ⟨rfl, hg, hE, Or.inl ⟨by omega, by first | exact Or.inl (by omega) | exact Or.inr (Or.inr (Or.inl (by omega))) | exact Or.inr (Or.inl (ik_no h20 (by omega))) | fail "none", rfl⟩⟩)
  · refine lv_aload_n hx hb dX9_move_11 rfl (lv_at hl 0 rfl) ?_
    refine q_getr (ci := 7) (C := RX9) (T := TX9) (N := 4) hx hb hts (fun w h => List.mem_cons_of_mem _ (mfX90 w h)) hown hK hw m_a0 o_a0 rfl 2 (by decide) (hts _ (List.mem_cons_of_mem _ (mr1 _ (List.mem_of_getElem? (i := 20) rfl)))) (fun _ h => h) rfl er_1 dX9_move_12 ?_
    have s1 := sx.at er_1
    refine lv_iload_n hx hb dX9_move_15 rfl (lv_at hl 1 rfl) ?_
    refine q_call_r hA hK hw (va_runV (As := [.int (iI x1)]) (rest := []) ⟨hx, hb, hml, hown, hts⟩ (c_X7_at_f zo l D cy L0 f0 r_1 x1 lx1 ux1 m_r_1 o_r_1 hg (by omega) (by omega) _) (cwV 1 hts (gT (inV (mr24 _ (List.mem_of_getElem? (i := 8) rfl)) (mr24 _ (List.mem_of_getElem? (i := 9) rfl)) (mr24 _ (List.mem_of_getElem? (i := 10) rfl)) (mr1 _ (List.mem_of_getElem? (i := 19) rfl)) (mr24 _ (List.mem_of_getElem? (i := 11) rfl)))) rfl rfl rfl (by decide +kernel) ⟨Nat.le_of_ble_eq_true rfl, Nat.le_of_ble_eq_true rfl⟩) (Wd.preV zo hA hZ hw hK m_r_1 o_r_1 rfl) rfl rfl hl.1 rfl (lv_room (Nat.le_of_ble_eq_true rfl)) dX9_move_16 ⟨Nat.le_of_ble_eq_true rfl, Nat.le_of_ble_eq_true rfl⟩) (fun x_3 L1 f1 H locs ex_3 hw => ?_)
    obtain ⟨rfl, rfl, ex_3⟩ := ex_3
    obtain ⟨m_x_3, o_x_3, ex_3⟩ := ex_3
    have rb := s1.1.rb ex_3 (by omega) (by omega) (by omega)
    refine lv_iload_n hx hb dX9_move_19 rfl (lv_at hl 2 rfl) ?_
    refine q_call_i hA hK hw (va_runV (As := [.int (iI x2)]) (rest := []) ⟨hx, hb, hml, hown, hts⟩ (c_X0_isKey_g zo l D cy L0 f0 x_3 x2 lx2 ux2 m_x_3 o_x_3 hg g (44 * x1) rb _) (cwV 1 hts (gT (inV (mr26 _ (List.mem_of_getElem? (i := 6) rfl)) (mr26 _ (List.mem_of_getElem? (i := 7) rfl)) (mr26 _ (List.mem_of_getElem? (i := 8) rfl)) (mr2 _ (List.mem_of_getElem? (i := 9) rfl)) (mr26 _ (List.mem_of_getElem? (i := 9) rfl)))) rfl rfl rfl (by decide +kernel) ⟨Nat.le_of_ble_eq_true rfl, Nat.le_of_ble_eq_true rfl⟩) (Wd.preV zo hA hZ hw hK m_x_3 o_x_3 rfl) rfl rfl hl.1 rfl (lv_room (Nat.le_of_ble_eq_true rfl)) dX9_move_20 ⟨Nat.le_of_ble_eq_true rfl, Nat.le_of_ble_eq_true rfl⟩) (fun x_4 L1 f1 H locs lx_4 ux_4 ex_4 hw => ?_)
    obtain ⟨rfl, rfl, ex_4⟩ := ex_4
    have h20 := ex_4
    refine q_if_eq (tgt := 33) hx hb dX9_move_23 (by decide) ⟨lx_4, ux_4⟩ (fun c23 => ?_) (fun c23 => ?_)
    · refine q_iconst hx hb dX9_move_33 ?_
      exact q_ret_z hx hb hr hlocks hK hAe hw (by omega) (Nat.le_of_ble_eq_true rfl) (Nat.le_of_ble_eq_true rfl) dX9_move_34 (by exact ⟨rfl, hg, hE, Or.inl ⟨by omega, by first | exact Or.inl (by omega) | exact Or.inr (Or.inr (Or.inl (by omega))) | exact Or.inr (Or.inl (ik_no h20 (by omega))) | fail "none", rfl⟩⟩)
    · refine lv_iload_n hx hb dX9_move_26 rfl (lv_at hl 3 rfl) ?_
      refine q_call_i hA hK hw (va_runS (As := [.int (iI x3)]) (rest := []) ⟨hx, hb, hml, hown, hts⟩ (c_X9_isTime zo l D cy L0 f0 x3 lx3 ux3 _) (va_cwS 1 hts (gT (inS (mr27 _ (List.mem_of_getElem? (i := 19) rfl)) (mr27 _ (List.mem_of_getElem? (i := 20) rfl)) (mr1 _ (List.mem_of_getElem? (i := 2) rfl)) (mr27 _ (List.mem_of_getElem? (i := 21) rfl)))) rfl rfl rfl (by decide +kernel) ⟨Nat.le_of_ble_eq_true rfl, Nat.le_of_ble_eq_true rfl⟩) (Wd.preS zo hA hZ hw hK) rfl rfl hl.1 rfl (lv_room (Nat.le_of_ble_eq_true rfl)) dX9_move_27 ⟨Nat.le_of_ble_eq_true rfl, Nat.le_of_ble_eq_true rfl⟩) (fun x_5 L1 f1 H locs lx_5 ux_5 ex_5 hw => ?_)
      obtain ⟨rfl, rfl, ex_5⟩ := ex_5
      refine q_if_ne (tgt := 35) hx hb dX9_move_30 (by decide) ⟨lx_5, ux_5⟩ (fun c30 => ?_) (fun c30 => ?_)
      · refine lv_aload_n hx hb dX9_move_35 rfl (lv_at hl 0 rfl) ?_
        refine q_getr (ci := 7) (C := RX9) (T := TX9) (N := 4) hx hb hts (fun w h => List.mem_cons_of_mem _ (mfX90 w h)) hown hK hw m_a0 o_a0 rfl 2 (by decide) (hts _ (List.mem_cons_of_mem _ (mr1 _ (List.mem_of_getElem? (i := 20) rfl)))) (fun _ h => h) rfl er_1 dX9_move_36 ?_
        have s1 := sx.at er_1
        refine lv_iload_n hx hb dX9_move_39 rfl (lv_at hl 1 rfl) ?_
        refine q_call_r hA hK hw (va_runV (As := [.int (iI x1)]) (rest := []) ⟨hx, hb, hml, hown, hts⟩ (c_X7_at_f zo l D cy L0 f0 r_1 x1 lx1 ux1 m_r_1 o_r_1 hg (by omega) (by omega) _) (cwV 1 hts (gT (inV (mr24 _ (List.mem_of_getElem? (i := 8) rfl)) (mr24 _ (List.mem_of_getElem? (i := 9) rfl)) (mr24 _ (List.mem_of_getElem? (i := 10) rfl)) (mr1 _ (List.mem_of_getElem? (i := 19) rfl)) (mr24 _ (List.mem_of_getElem? (i := 11) rfl)))) rfl rfl rfl (by decide +kernel) ⟨Nat.le_of_ble_eq_true rfl, Nat.le_of_ble_eq_true rfl⟩) (Wd.preV zo hA hZ hw hK m_r_1 o_r_1 rfl) rfl rfl hl.1 rfl (lv_room (Nat.le_of_ble_eq_true rfl)) dX9_move_40 ⟨Nat.le_of_ble_eq_true rfl, Nat.le_of_ble_eq_true rfl⟩) (fun x_6 L1 f1 H locs ex_6 hw => ?_)
        obtain ⟨rfl, rfl, ex_6⟩ := ex_6
        obtain ⟨m_x_6, o_x_6, ex_6⟩ := ex_6
        have gx := s1.1.row ex_6 (by omega) (by omega)
        refine lv_iload_n hx hb dX9_move_43 rfl (lv_at hl 2 rfl) ?_
        refine lv_iload_n hx hb dX9_move_44 rfl (lv_at hl 3 rfl) ?_
        refine q_call_i hA hK hw (va_runV (As := [.int (iI x2), .int (iI x3)]) (rest := []) ⟨hx, hb, hml, hown, hts⟩ (c_X0_change_o zo l D cy L0 f0 x_6 x2 lx2 ux2 x3 lx3 ux3 m_x_6 o_x_6 hg O (by rw [gx]; exact oc ⟨by omega, by omega⟩) (by rw [gx]; exact na ⟨by omega, by omega⟩) (by omega) _) (cwV 2 hts (gT (inV (mr26 _ (List.mem_of_getElem? (i := 19) rfl)) (mr26 _ (List.mem_of_getElem? (i := 20) rfl)) (mr26 _ (List.mem_of_getElem? (i := 21) rfl)) (mr2 _ (List.mem_of_getElem? (i := 9) rfl)) (mr26 _ (List.mem_of_getElem? (i := 22) rfl)))) rfl rfl rfl (by decide +kernel) ⟨Nat.le_of_ble_eq_true rfl, Nat.le_of_ble_eq_true rfl⟩) (Wd.preV zo hA hZ hw hK m_x_6 o_x_6 rfl) rfl rfl hl.1 rfl (lv_room (Nat.le_of_ble_eq_true rfl)) dX9_move_45 ⟨Nat.le_of_ble_eq_true rfl, Nat.le_of_ble_eq_true rfl⟩) (fun x_7 L1 f_8 H locs lx_7 ux_7 ex_7 hw => ?_)
        obtain ⟨rfl, hg, hX, ex_7⟩ := ex_7
        have hE := hE.trans hX
        have o_a0 := hX.1.1 _ _ o_a0
        have h45 := ex_7
        rw [gx] at h45
        exact q_ret_z hx hb hr hlocks hK hAe hw (by omega) (Nat.le_of_ble_eq_true rfl) (Nat.le_of_ble_eq_true rfl) dX9_move_48 (by exact ⟨rfl, hg, hE, h45.elim (fun z => Or.inl ⟨z.1, Or.inr (Or.inr (Or.inr ⟨z.2.1, z.2.2.1⟩)), z.2.2.2⟩) (fun z => Or.inr ⟨z.1, ⟨by omega, by omega⟩, ik_yes h20 (by omega), ⟨by omega, by omega⟩, z.2⟩)⟩)
      · refine q_iconst hx hb dX9_move_33 ?_
        exact q_ret_z hx hb hr hlocks hK hAe hw (by omega) (Nat.le_of_ble_eq_true rfl) (Nat.le_of_ble_eq_true rfl) dX9_move_34 (by exact ⟨rfl, hg, hE, Or.inl ⟨by omega, by first | exact Or.inl (by omega) | exact Or.inr (Or.inr (Or.inl (by omega))) | exact Or.inr (Or.inl (ik_no h20 (by omega))) | fail "none", rfl⟩⟩)
set_option maxHeartbeats 4000000 in
set_option maxRecDepth 100000 in
theorem c_X9_restore_o {Z : Zt} (zo : Zok Z) (l : Launch) (D : va_G) (cy : Cy) (L0 : List Nat) (f0 : Nat → va_E) (a0 : Nat) (x1 : Int) (lx1 : -2147483648 ≤ x1) (ux1 : x1 ≤ 2147483647) (x2 : Int) (lx2 : -2147483648 ≤ x2) (ux2 : x2 ≤ 2147483647) (m_a0 : a0 ∈ L0) (o_a0 : Ob f0 a0 7) (hg : GI cy L0 f0) (rq : Int → Nat) (g : Int → Int) (mm : Int) (sx : SX f0 a0 rq g mm) (O : Int → Int) (oc : 0 ≤ x1 ∧ x1 < mm → OC f0 (rq x1) O) (na : 0 ≤ x1 ∧ x1 < mm → KA f0 (rq x1) ≠ TA f0 (rq x1)) : Ci Z l yX9_restore (Cond.code yX9_restore cX9_restore 3 (some .int) :: TB) ({ frames := 5, cells := 0, slots := 0, locals := 111 } : Room) 0 0 D (tq cy) [.ref a0, .int (iI x1), .int (iI x2)] L0 f0 (fun (r : Int) (L1 : List Nat) (f1 : Nat → va_E) => L0 = L1 ∧ GI cy L0 f1 ∧ Ex cy f0 f1 ∧ ((r = -1 ∧ (¬ (0 ≤ x1 ∧ x1 < mm) ∨ ¬ (0 ≤ x2 ∧ x2 ≤ 36524 ∧ KG g (44 * x1) x2)) ∧ f1 = f0) ∨ (r = 0 ∧ (0 ≤ x1 ∧ x1 < mm) ∧ (0 ≤ x2 ∧ x2 ≤ 36524 ∧ KG g (44 * x1) x2) ∧ O x2 = -2 ∧ f1 = f0) ∨ ((0 ≤ x1 ∧ x1 < mm) ∧ (0 ≤ x2 ∧ x2 ≤ 36524 ∧ KG g (44 * x1) x2) ∧ ((r = 1 ∧ O x2 = -1) ∨ (r = 2 ∧ 0 ≤ O x2)) ∧ Eo f0 f1 (rq x1) ∧ OC f1 (rq x1) (upO O x2 (-2)) ∧ fI f1 (rq x1) 10 = fI f0 (rq x1) 10 - 1))) := by
  refine Ci.enter (cc := cX9_restore) (n := 3) rfl (plainFor_of_name (by decide)) (Nat.le_of_ble_eq_true rfl) ?_
  intro p e s m below meth c ls A hx hb hr hts hown hlocks hnm hml hK hA hAe hw hZ hl
  have hown : s.vm.findClass RX9 = some m.cls := hown
  have hl : lv_has ls 3 [(0, .ref a0), (1, .int (iI x1)), (2, .int (iI x2))] := hl
  have hN : ZN s := (zo.2.2.2.2 _ _ _ hZ).2
  have hE : Ex cy f0 f0 := Ex.refl cy f0
  refine lv_aload_n hx hb dX9_restore_0 rfl (lv_at hl 0 rfl) ?_
  obtain ⟨r_1, er_1, m_r_1, o_r_1⟩ := (show ∃ r, fR f0 a0 2 = some r ∧ r ∈ L0 ∧ Ob f0 r 5 from hg.2.1 _ m_a0 7 2 o_a0)
  refine q_getr (ci := 7) (C := RX9) (T := TX9) (N := 4) hx hb hts (fun w h => List.mem_cons_of_mem _ (mfX90 w h)) hown hK hw m_a0 o_a0 rfl 2 (by decide) (hts _ (List.mem_cons_of_mem _ (mr1 _ (List.mem_of_getElem? (i := 20) rfl)))) (fun _ h => h) rfl er_1 dX9_restore_1 ?_
  have s1 := sx.at er_1
  refine lv_iload_n hx hb dX9_restore_4 rfl (lv_at hl 1 rfl) ?_
  refine q_call_i hA hK hw (va_runV (As := [.int (iI x1)]) (rest := []) ⟨hx, hb, hml, hown, hts⟩ (c_X7_has_f zo l D cy L0 f0 r_1 x1 lx1 ux1 m_r_1 o_r_1 hg _) (cwV 1 hts (gT (inV (mr22 _ (List.mem_of_getElem? (i := 9) rfl)) (mr22 _ (List.mem_of_getElem? (i := 10) rfl)) (mr22 _ (List.mem_of_getElem? (i := 11) rfl)) (mr1 _ (List.mem_of_getElem? (i := 19) rfl)) (mr22 _ (List.mem_of_getElem? (i := 12) rfl)))) rfl rfl rfl (by decide +kernel) ⟨Nat.le_of_ble_eq_true rfl, Nat.le_of_ble_eq_true rfl⟩) (Wd.preV zo hA hZ hw hK m_r_1 o_r_1 rfl) rfl rfl hl.1 rfl (lv_room (Nat.le_of_ble_eq_true rfl)) dX9_restore_5 ⟨Nat.le_of_ble_eq_true rfl, Nat.le_of_ble_eq_true rfl⟩) (fun x_2 L1 f1 H locs lx_2 ux_2 ex_2 hw => ?_)
  obtain ⟨rfl, rfl, ex_2⟩ := ex_2
  refine q_if_eq (tgt := 26) hx hb dX9_restore_8 (by decide) ⟨lx_2, ux_2⟩ (fun c8 => ?_) (fun c8 => ?_)
  · refine q_iconst hx hb dX9_restore_26 ?_
    exact q_ret_i hx hb hr hlocks hK hAe hw ⟨by decide, by decide⟩ (Nat.le_of_ble_eq_true rfl) (Nat.le_of_ble_eq_true rfl) dX9_restore_27 (by exact ⟨rfl, hg, hE, Or.inl ⟨by omega, by first | exact Or.inl (by omega) | exact Or.inr (ik_no h20 (by omega)) | fail "none", rfl⟩⟩)
  · refine lv_aload_n hx hb dX9_restore_11 rfl (lv_at hl 0 rfl) ?_
    refine q_getr (ci := 7) (C := RX9) (T := TX9) (N := 4) hx hb hts (fun w h => List.mem_cons_of_mem _ (mfX90 w h)) hown hK hw m_a0 o_a0 rfl 2 (by decide) (hts _ (List.mem_cons_of_mem _ (mr1 _ (List.mem_of_getElem? (i := 20) rfl)))) (fun _ h => h) rfl er_1 dX9_restore_12 ?_
    have s1 := sx.at er_1
    refine lv_iload_n hx hb dX9_restore_15 rfl (lv_at hl 1 rfl) ?_
    refine q_call_r hA hK hw (va_runV (As := [.int (iI x1)]) (rest := []) ⟨hx, hb, hml, hown, hts⟩ (c_X7_at_f zo l D cy L0 f0 r_1 x1 lx1 ux1 m_r_1 o_r_1 hg (by omega) (by omega) _) (cwV 1 hts (gT (inV (mr24 _ (List.mem_of_getElem? (i := 8) rfl)) (mr24 _ (List.mem_of_getElem? (i := 9) rfl)) (mr24 _ (List.mem_of_getElem? (i := 10) rfl)) (mr1 _ (List.mem_of_getElem? (i := 19) rfl)) (mr24 _ (List.mem_of_getElem? (i := 11) rfl)))) rfl rfl rfl (by decide +kernel) ⟨Nat.le_of_ble_eq_true rfl, Nat.le_of_ble_eq_true rfl⟩) (Wd.preV zo hA hZ hw hK m_r_1 o_r_1 rfl) rfl rfl hl.1 rfl (lv_room (Nat.le_of_ble_eq_true rfl)) dX9_restore_16 ⟨Nat.le_of_ble_eq_true rfl, Nat.le_of_ble_eq_true rfl⟩) (fun x_3 L1 f1 H locs ex_3 hw => ?_)
    obtain ⟨rfl, rfl, ex_3⟩ := ex_3
    obtain ⟨m_x_3, o_x_3, ex_3⟩ := ex_3
    have rb := s1.1.rb ex_3 (by omega) (by omega) (by omega)
    refine lv_iload_n hx hb dX9_restore_19 rfl (lv_at hl 2 rfl) ?_
    refine q_call_i hA hK hw (va_runV (As := [.int (iI x2)]) (rest := []) ⟨hx, hb, hml, hown, hts⟩ (c_X0_isKey_g zo l D cy L0 f0 x_3 x2 lx2 ux2 m_x_3 o_x_3 hg g (44 * x1) rb _) (cwV 1 hts (gT (inV (mr26 _ (List.mem_of_getElem? (i := 6) rfl)) (mr26 _ (List.mem_of_getElem? (i := 7) rfl)) (mr26 _ (List.mem_of_getElem? (i := 8) rfl)) (mr2 _ (List.mem_of_getElem? (i := 9) rfl)) (mr26 _ (List.mem_of_getElem? (i := 9) rfl)))) rfl rfl rfl (by decide +kernel) ⟨Nat.le_of_ble_eq_true rfl, Nat.le_of_ble_eq_true rfl⟩) (Wd.preV zo hA hZ hw hK m_x_3 o_x_3 rfl) rfl rfl hl.1 rfl (lv_room (Nat.le_of_ble_eq_true rfl)) dX9_restore_20 ⟨Nat.le_of_ble_eq_true rfl, Nat.le_of_ble_eq_true rfl⟩) (fun x_4 L1 f1 H locs lx_4 ux_4 ex_4 hw => ?_)
    obtain ⟨rfl, rfl, ex_4⟩ := ex_4
    have h20 := ex_4
    refine q_if_ne (tgt := 28) hx hb dX9_restore_23 (by decide) ⟨lx_4, ux_4⟩ (fun c23 => ?_) (fun c23 => ?_)
    · refine lv_aload_n hx hb dX9_restore_28 rfl (lv_at hl 0 rfl) ?_
      refine q_getr (ci := 7) (C := RX9) (T := TX9) (N := 4) hx hb hts (fun w h => List.mem_cons_of_mem _ (mfX90 w h)) hown hK hw m_a0 o_a0 rfl 2 (by decide) (hts _ (List.mem_cons_of_mem _ (mr1 _ (List.mem_of_getElem? (i := 20) rfl)))) (fun _ h => h) rfl er_1 dX9_restore_29 ?_
      have s1 := sx.at er_1
      refine lv_iload_n hx hb dX9_restore_32 rfl (lv_at hl 1 rfl) ?_
      refine q_call_r hA hK hw (va_runV (As := [.int (iI x1)]) (rest := []) ⟨hx, hb, hml, hown, hts⟩ (c_X7_at_f zo l D cy L0 f0 r_1 x1 lx1 ux1 m_r_1 o_r_1 hg (by omega) (by omega) _) (cwV 1 hts (gT (inV (mr24 _ (List.mem_of_getElem? (i := 8) rfl)) (mr24 _ (List.mem_of_getElem? (i := 9) rfl)) (mr24 _ (List.mem_of_getElem? (i := 10) rfl)) (mr1 _ (List.mem_of_getElem? (i := 19) rfl)) (mr24 _ (List.mem_of_getElem? (i := 11) rfl)))) rfl rfl rfl (by decide +kernel) ⟨Nat.le_of_ble_eq_true rfl, Nat.le_of_ble_eq_true rfl⟩) (Wd.preV zo hA hZ hw hK m_r_1 o_r_1 rfl) rfl rfl hl.1 rfl (lv_room (Nat.le_of_ble_eq_true rfl)) dX9_restore_33 ⟨Nat.le_of_ble_eq_true rfl, Nat.le_of_ble_eq_true rfl⟩) (fun x_5 L1 f1 H locs ex_5 hw => ?_)
      obtain ⟨rfl, rfl, ex_5⟩ := ex_5
      obtain ⟨m_x_5, o_x_5, ex_5⟩ := ex_5
      have gx := s1.1.row ex_5 (by omega) (by omega)
      refine lv_iload_n hx hb dX9_restore_36 rfl (lv_at hl 2 rfl) ?_
      refine q_call_i hA hK hw (va_runV (As := [.int (iI x2)]) (rest := []) ⟨hx, hb, hml, hown, hts⟩ (c_X0_undoChange_o zo l D cy L0 f0 x_5 x2 lx2 ux2 m_x_5 o_x_5 hg O (by rw [gx]; exact oc ⟨by omega, by omega⟩) (by rw [gx]; exact na ⟨by omega, by omega⟩) _) (cwV 1 hts (gT (inV (mr28 _ (List.mem_of_getElem? (i := 11) rfl)) (mr28 _ (List.mem_of_getElem? (i := 12) rfl)) (mr28 _ (List.mem_of_getElem? (i := 13) rfl)) (mr2 _ (List.mem_of_getElem? (i := 9) rfl)) (mr28 _ (List.mem_of_getElem? (i := 14) rfl)))) rfl rfl rfl (by decide +kernel) ⟨Nat.le_of_ble_eq_true rfl, Nat.le_of_ble_eq_true rfl⟩) (Wd.preV zo hA hZ hw hK m_x_5 o_x_5 rfl) rfl rfl hl.1 rfl (lv_room (Nat.le_of_ble_eq_true rfl)) dX9_restore_37 ⟨Nat.le_of_ble_eq_true rfl, Nat.le_of_ble_eq_true rfl⟩) (fun x_6 L1 f_7 H locs lx_6 ux_6 ex_6 hw => ?_)
      obtain ⟨rfl, hg, hX, ex_6⟩ := ex_6
      have hE := hE.trans hX
      have o_a0 := hX.1.1 _ _ o_a0
      have h37 := ex_6
      rw [gx] at h37
      exact q_ret_i hx hb hr hlocks hK hAe hw ⟨lx_6, ux_6⟩ (Nat.le_of_ble_eq_true rfl) (Nat.le_of_ble_eq_true rfl) dX9_restore_40 (by exact ⟨rfl, hg, hE, Or.inr (h37.elim (fun z => Or.inl ⟨z.1, ⟨by omega, by omega⟩, ik_yes h20 (by omega), z.2.1, z.2.2⟩) (fun z => Or.inr ⟨⟨by omega, by omega⟩, ik_yes h20 (by omega), z⟩))⟩)
    · refine q_iconst hx hb dX9_restore_26 ?_
      exact q_ret_i hx hb hr hlocks hK hAe hw ⟨by decide, by decide⟩ (Nat.le_of_ble_eq_true rfl) (Nat.le_of_ble_eq_true rfl) dX9_restore_27 (by exact ⟨rfl, hg, hE, Or.inl ⟨by omega, by first | exact Or.inl (by omega) | exact Or.inr (ik_no h20 (by omega)) | fail "none", rfl⟩⟩)
