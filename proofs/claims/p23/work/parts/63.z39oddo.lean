/-! ===== counting over places and over keys ===== -/
theorem cn_img {f : Int → Int} {p : Int → Prop} (n : Nat) : (∀ i j : Int, 0 ≤ i → i < n → 0 ≤ j → j < n → p i → p j → f i = f j → i = j) → (∀ i : Int, 0 ≤ i → i < n → p i → 0 ≤ f i ∧ f i ≤ 36524) → cn p 0 n = cn (fun k => ∃ i : Int, 0 ≤ i ∧ i < n ∧ p i ∧ f i = k) 0 36525 := by
  induction n with
  | zero =>
    intro _ _
    rw [cn_le (by omega)]
    exact (cn_none (fun d _ _ ⟨i, i0, i1, _⟩ => by omega)).symm
  | succ n ih =>
    intro inj rg
    have e := ih (fun i j i0 i1 j0 j1 => inj i j i0 (by omega) j0 (by omega)) (fun i i0 i1 => rg i i0 (by omega))
    rw [show ((n + 1 : Nat) : Int) = (n : Int) + 1 by omega]
    rcases Classical.em (p (n : Int)) with c | c
    · have b := rg (n : Int) (by omega) (by omega) c
      rw [cn_yes (by omega) c, e]
      refine (cn_put (k := f (n : Int)) b.1 b.2 (fun z => ?_) (fun d => ⟨fun z => ?_, fun z => ?_⟩)).symm
      · obtain ⟨i, i0, i1, i2, i3⟩ := z
        have := inj i n i0 (by omega) (by omega) (by omega) i2 c i3
        omega
      · obtain ⟨i, i0, i1, i2, i3⟩ := z
        by_cases q : i = n
        · right; rw [← i3, q]
        · left; exact ⟨i, i0, by omega, i2, i3⟩
      · rcases z with ⟨i, i0, i1, i2, i3⟩ | z
        · exact ⟨i, i0, by omega, i2, i3⟩
        · exact ⟨n, by omega, by omega, c, z.symm⟩
    · rw [cn_no (by omega) c, e]
      refine cn_cg (fun d _ _ => ⟨fun ⟨i, i0, i1, i2, i3⟩ => ⟨i, i0, by omega, i2, i3⟩, fun ⟨i, i0, i1, i2, i3⟩ => ?_⟩)
      by_cases q : i = n
      · rw [q] at i2; exact absurd i2 c
      · exact ⟨i, i0, by omega, i2, i3⟩
theorem cn_img' {f : Int → Int} {p q : Int → Prop} {n : Int} (n0 : 0 ≤ n) (inj : ∀ i j : Int, 0 ≤ i → i < n → 0 ≤ j → j < n → p i → p j → f i = f j → i = j) (rg : ∀ i : Int, 0 ≤ i → i < n → p i → 0 ≤ f i ∧ f i ≤ 36524) (e : ∀ k : Int, 0 ≤ k → k ≤ 36524 → (q k ↔ ∃ i : Int, 0 ≤ i ∧ i < n ∧ p i ∧ f i = k)) : cn p 0 n = cn q 0 36525 := by
  obtain ⟨m, rfl⟩ := Int.eq_ofNat_of_zero_le n0
  rw [cn_img m inj rg]
  exact cn_cg (fun d d0 d1 => (e d d0 (by omega)).symm)
/-- over the places of the odds, and over their keys -/
theorem OdR.cnt {K T O : Int → Int} {n : Int} (h : OdR K T n O) (n0 : 0 ≤ n) (hk : ∀ k : Int, O k ≠ -2 → 0 ≤ k ∧ k ≤ 36524) (Q : Int → Int → Prop) : cn (fun i => Q (K i) (T i)) 0 n = cn (fun k => O k ≠ -2 ∧ Q k (O k)) 0 36525 := by
  refine cn_img' (f := K) n0 (fun i j i0 i1 j0 j1 _ _ e => h.2.2 i j i0 i1 j0 j1 e) (fun i i0 i1 _ => hk _ (h.at i0 i1 rfl).2.1) (fun k _ _ => ⟨fun z => ?_, fun ⟨i, i0, i1, i2, i3⟩ => ?_⟩)
  · obtain ⟨i, i0, i1, i2⟩ := h.2.1 k z.1
    refine ⟨i, i0, i1, ?_, i2⟩
    show Q (K i) (T i)
    rw [i2, (h.at i0 i1 i2).1]
    exact z.2
  · have a := h.at i0 i1 i3
    refine ⟨a.2.1, ?_⟩
    rw [← a.1, ← i3]
    exact i2
theorem cn_compl {p : Int → Prop} {a : Int} (n : Nat) : cn (fun i => ¬ p i) a (a + n) = n - cn p a (a + n) := by
  induction n with
  | zero => rw [cn_le (by omega), cn_le (by omega)]; rfl
  | succ n ih =>
    rw [show a + ((n + 1 : Nat) : Int) = a + n + 1 by omega]
    rcases Classical.em (p (a + n)) with c | c
    · rw [cn_no (p := fun i => ¬ p i) (by omega) (fun z => z c), cn_yes (p := p) (by omega) c, ih]; omega
    · rw [cn_yes (p := fun i => ¬ p i) (by omega) c, cn_no (p := p) (by omega) c, ih]; omega
theorem cn_not {p q : Int → Prop} {n : Int} (n0 : 0 ≤ n) (e : ∀ i : Int, 0 ≤ i → i < n → (q i ↔ ¬ p i)) : cn q 0 n = n - cn p 0 n := by
  obtain ⟨m, rfl⟩ := Int.eq_ofNat_of_zero_le n0
  have z := cn_compl (p := p) (a := 0) m
  rw [Int.zero_add] at z
  rw [← z]
  exact cn_cg e
theorem ct_step {p : Int → Prop} {j c z j' : Int} (h : c = cn p 0 j) (j0 : 0 ≤ j) (ej : j' = j + 1) (hz : (p j ∧ z = c + 1) ∨ (¬ p j ∧ z = c)) : z = cn p 0 j' := by
  rw [ej]
  rcases hz with ⟨q, e⟩ | ⟨q, e⟩
  · rw [cn_yes j0 q, e, h]
  · rw [cn_no j0 q, e, h]
/-! ===== of: what is told of a booking ===== -/
def TELL (g : Int → Int) (p : Int) (O : Int → Int) (w r : Int) : Prop := (0 ≤ w ∧ w ≤ 9 ∧ r = g (p + w)) ∨ (w = 10 ∧ r = cn (fun k => O k ≠ -2 ∧ O k = -1) 0 36525) ∨ (w = 11 ∧ r = cn (fun k => O k ≠ -2 ∧ ¬ O k = -1) 0 36525) ∨ (w = 12 ∧ ∃ l : Int, Bd (KG g p) r l) ∨ (w = 13 ∧ ∃ k : Int, Bd (KG g p) k r) ∨ ((w < 0 ∨ 13 < w) ∧ r = -2)
theorem Bd.one {K : Int → Prop} {a b c d : Int} (h : Bd K a b) (g : Bd K c d) : a = c ∧ b = d := by
  rcases h with ⟨h1, h2, h3⟩ | ⟨h1, h2, h3, h4, h5, h6⟩ <;> rcases g with ⟨g1, g2, g3⟩ | ⟨g1, g2, g3, g4, g5, g6⟩
  · omega
  · exact absurd g4 (h3 _)
  · exact absurd h4 (g3 _)
  · have a1 := h6 _ g4
    have a2 := h6 _ g5
    have a3 := g6 _ h4
    have a4 := g6 _ h5
    omega
theorem TELL.one {g : Int → Int} {p w r r' : Int} {O : Int → Int} (h : TELL g p O w r) (k : TELL g p O w r') : r = r' := by
  rcases h with ⟨h0, h1, h2⟩ | ⟨h1, h2⟩ | ⟨h1, h2⟩ | ⟨h1, l, h2⟩ | ⟨h1, l, h2⟩ | ⟨h1, h2⟩ <;> rcases k with ⟨k0, k1, k2⟩ | ⟨k1, k2⟩ | ⟨k1, k2⟩ | ⟨k1, m, k2⟩ | ⟨k1, m, k2⟩ | ⟨k1, k2⟩ <;> first | (exfalso; omega) | exact h2.trans k2.symm | exact (h2.one k2).1 | exact (h2.one k2).2 | fail "none"
theorem TELL.w {g : Int → Int} {p w r v j : Int} {O : Int → Int} (e : r = v) (h : v = g (p + j)) (ew : w = j) (j0 : 0 ≤ j) (j1 : j ≤ 9) : TELL g p O w r := Or.inl ⟨by omega, by omega, by rw [e, h, ew]⟩
theorem TELL.d {f : Nat → va_E} {b : Nat} {g : Int → Int} {p w r : Int} {O : Int → Int} (e : r = cn (fun i => aI f (TA f b) i = -1) 0 (fI f b 10)) (oc : OC f b O) (hk : OKk g p O) (n0 : 0 ≤ fI f b 10) (ew : w = 10) : TELL g p O w r := by
  have h : OdR (aI f (KA f b)) (aI f (TA f b)) (fI f b 10) O := oc
  exact Or.inr (Or.inl ⟨ew, e.trans (h.cnt n0 hk.kb (fun _ t => t = -1))⟩)
theorem TELL.m {f : Nat → va_E} {b : Nat} {g : Int → Int} {p w r d : Int} {O : Int → Int} (e : d = cn (fun i => aI f (TA f b) i = -1) 0 (fI f b 10)) (oc : OC f b O) (hk : OKk g p O) (n0 : 0 ≤ fI f b 10) (er : r = fI f b 10 - d) (ew : w = 11) : TELL g p O w r := by
  have h : OdR (aI f (KA f b)) (aI f (TA f b)) (fI f b 10) O := oc
  have z := h.cnt n0 hk.kb (fun _ t => ¬ t = -1)
  have y := cn_not (p := fun i => aI f (TA f b) i = -1) (q := fun i => ¬ aI f (TA f b) i = -1) n0 (fun i _ _ => Iff.rfl)
  exact Or.inr (Or.inr (Or.inl ⟨ew, by rw [er, e, ← y]; exact z⟩))
/-- the rule's words -/
theorem RuK.detail0 {f : Nat → va_E} {r ci : Nat} {k n s v w : Int} (h : RuK f r k n s v w) (o : Ob f r ci) (h2 : ci ≠ 2) (h6 : ci ≠ 6) : v = 0 := by
  rcases h.2 with ⟨q, z⟩ | ⟨q, z⟩ | ⟨q, z⟩ | ⟨q, z⟩
  · exact z.2.2.1
  · exact z.2.2.2.1
  · exact absurd (o.uniq q) h6
  · exact absurd (o.uniq q) h2
theorem RuK.nthWeekday0 {f : Nat → va_E} {r ci : Nat} {k n s v w : Int} (h : RuK f r k n s v w) (o : Ob f r ci) (h2 : ci ≠ 2) : w = -1 := by
  rcases h.2 with ⟨q, z⟩ | ⟨q, z⟩ | ⟨q, z⟩ | ⟨q, z⟩
  · exact z.2.2.2
  · exact z.2.2.2.2.1
  · exact z.2.2.2.2.2.1
  · exact absurd (o.uniq q) h2
theorem RuK.mwords {f : Nat → va_E} {r : Nat} {k n s v w : Int} (h : RuK f r k n s v w) (o : Ob f r 2) : fI f r 0 = k ∧ ((k = 7 ∧ v = 0 ∧ w = -1) ∨ (k = 6 ∧ fI f r 6 = v ∧ w = -1) ∨ (k = 5 ∧ fI f r 5 = v ∧ fI f r 6 = w) ∨ ((k = 3 ∨ k = 4) ∧ fI f r 5 = v ∧ w = -1)) := by
  obtain ⟨⟨h0, -⟩, h⟩ := h
  rcases h with ⟨o', _⟩ | ⟨o', _⟩ | ⟨o', _⟩ | ⟨o', k1, n1, n2, e3, e4, e5, e6⟩
  · exact absurd (o.uniq o') (by decide)
  · exact absurd (o.uniq o') (by decide)
  · exact absurd (o.uniq o') (by decide)
  · refine ⟨h0, ?_⟩
    unfold okK at k1
    unfold nvC at e5
    unfold nwC at e6
    rcases k1 with ⟨e, a⟩ | ⟨e, a⟩ | ⟨e, a⟩ | ⟨e, a⟩ | ⟨e, a⟩ <;> subst e <;> simp only [Int.reduceEq, if_false, if_true] at e5 e6
    · exact Or.inr (Or.inr (Or.inr ⟨Or.inl rfl, e5, a.2.2⟩))
    · exact Or.inr (Or.inr (Or.inr ⟨Or.inr rfl, e5, a.2.2⟩))
    · exact Or.inr (Or.inr (Or.inl ⟨rfl, e5, e6⟩))
    · exact Or.inr (Or.inl ⟨rfl, e6, a.2.2⟩)
    · exact Or.inl ⟨rfl, a.1, a.2⟩
/-- the reference's row of keys, its first and last -/
theorem KL.bd {K : Int → Prop} {k : Int → Int} {n : Int} (h : KL K k n) (hr : ∀ d : Int, K d → 0 ≤ d ∧ d ≤ 36524) : (n = 0 → Bd K (-1) (-1)) ∧ (0 < n → Bd K (k 0) (k (n - 1))) := by
  obtain ⟨h0, h1, h2, h3⟩ := h
  refine ⟨fun e => Or.inl ⟨rfl, rfl, fun d kd => ?_⟩, fun e => Or.inr ⟨(hr _ (h1 0 (by omega) e)).1, ?_, (hr _ (h1 (n - 1) (by omega) (by omega))).2, h1 0 (by omega) e, h1 (n - 1) (by omega) (by omega), fun d kd => ?_⟩⟩
  · obtain ⟨i, i0, i1, i2⟩ := h3 d kd
    omega
  · by_cases q : n = 1
    · rw [q]; exact Int.le_refl _
    · exact Int.le_of_lt (h2 0 (n - 1) (by omega) (by omega) (by omega))
  · obtain ⟨i, i0, i1, i2⟩ := h3 d kd
    rw [← i2]
    constructor
    · by_cases q : i = 0
      · rw [q]; exact Int.le_refl _
      · exact Int.le_of_lt (h2 0 i (by omega) (by omega) i1)
    · by_cases q : i = n - 1
      · rw [q]; exact Int.le_refl _
      · exact Int.le_of_lt (h2 i (n - 1) i0 (by omega) (by omega))
/-- the reference counts the odds of one sort -/
theorem om_cnt {g : Int → Int} {p x w r : Int} {O : Int → Int} (om : OM g p O) (hk : OKk g p O) (n0 : 0 ≤ g (p + 11)) (e : r = cn (fun i => (g (p + 13 + 2 * i) < 0 ∧ x = 1) ∨ (0 ≤ g (p + 13 + 2 * i) ∧ x = 0)) 0 (g (p + 11))) (hw : (w = 10 ∧ x = 1) ∨ (w = 11 ∧ x = 0)) : TELL g p O w r := by
  have h : OdR (fun i => g (p + 12 + 2 * i)) (fun i => g (p + 13 + 2 * i)) (g (p + 11)) O := om
  have lo : ∀ i : Int, 0 ≤ i → i < g (p + 11) → -1 ≤ g (p + 13 + 2 * i) := fun i i0 i1 => (h.1 i i0 i1).2
  rcases hw with ⟨hw, hx⟩ | ⟨hw, hx⟩
  · refine Or.inr (Or.inl ⟨hw, e.trans (Eq.trans (cn_cg (fun i i0 i1 => ⟨fun z => ?_, fun z => ?_⟩)) (h.cnt n0 hk.kb (fun _ t => t = -1)))⟩)
    · have := lo i i0 i1
      show g (p + 13 + 2 * i) = -1
      omega
    · have z : g (p + 13 + 2 * i) = -1 := z
      omega
  · refine Or.inr (Or.inr (Or.inl ⟨hw, e.trans (Eq.trans (cn_cg (fun i i0 i1 => ⟨fun z => ?_, fun z => ?_⟩)) (h.cnt n0 hk.kb (fun _ t => ¬ t = -1)))⟩))
    · show ¬ g (p + 13 + 2 * i) = -1
      omega
    · have := lo i i0 i1
      have z : ¬ g (p + 13 + 2 * i) = -1 := z
      omega
theorem of_eq {fm : Nat → va_E} {mo : Nat} {ad : Nat → Nat} {O : Int → Int} {r r' c c' d d' : Int} (e : (r = -2 ∧ ¬ (0 ≤ c ∧ c < fI fm mo 5)) ∨ ((0 ≤ c ∧ c < fI fm mo 5) ∧ TELL (aI fm (ad 4)) (44 * c) O d r)) (q : (r' = -2 ∧ ¬ (0 ≤ c' ∧ c' < fI fm mo 5)) ∨ ((0 ≤ c' ∧ c' < fI fm mo 5) ∧ TELL (aI fm (ad 4)) (44 * c') O d' r')) (ec : c = c') (ed : d = d') : r = r' := by
  subst ec
  subst ed
  rcases e with ⟨e1, e2⟩ | ⟨e1, e2⟩ <;> rcases q with ⟨d1, d2⟩ | ⟨d1, d2⟩
  · omega
  · exact absurd d1 e2
  · exact absurd e1 d2
  · exact e2.one d2
