/-! ===== the odds over the whole relation ===== -/
/-- what is told otherwise are keys, at TIMES -/
def OKk (g : Int → Int) (p : Int) (O : Int → Int) : Prop := ∀ k : Int, O k ≠ -2 → KG g p k ∧ 0 ≤ k ∧ k ≤ 36524 ∧ O k ≤ 52595999
theorem OKk.kb {g : Int → Int} {p : Int} {O : Int → Int} (h : OKk g p O) : ∀ k : Int, O k ≠ -2 → 0 ≤ k ∧ k ≤ 36524 := fun k z => ⟨(h k z).2.1, (h k z).2.2.1⟩
theorem OKk.cg {g g' : Int → Int} {p q : Int} {O : Int → Int} (h : OKk g p O) (e : ∀ j : Int, 3 ≤ j → j ≤ 10 → g' (q + j) = g (p + j)) : OKk g' q O := by
  have z := KG.cg (g := g) (h := g') (p := p) (q := q) e
  intro k hk
  rw [z]
  exact h k hk
theorem OKk.up {g : Int → Int} {p k v : Int} {O : Int → Int} (h : OKk g p O) (kg : KG g p k) (k0 : 0 ≤ k) (k1 : k ≤ 36524) (v1 : v ≤ 52595999) : OKk g p (upO O k v) := fun j z => by
  by_cases q : j = k
  · rw [q, upO_s]; exact ⟨kg, k0, k1, v1⟩
  · rw [upO_n q] at z ⊢; exact h j z
theorem OKk.nil (g : Int → Int) (p : Int) : OKk g p (fun _ => -2) := fun _ h => absurd rfl h
def OO (f : Nat → va_E) (b : Nat) (g : Int → Int) (p : Int) : Prop := ∃ O : Int → Int, OC f b O ∧ OM g p O ∧ OKk g p O ∧ 0 ≤ g (p + 11) ∧ g (p + 11) ≤ 16
theorem OO.to {f f1 : Nat → va_E} {b b1 : Nat} {g g' : Int → Int} {p q : Int} (h : OO f b g p) (k : ∀ O : Int → Int, OC f b O → OC f1 b1 O) (e : ∀ j : Int, 3 ≤ j → j ≤ 43 → g' (q + j) = g (p + j)) : OO f1 b1 g' q := by
  obtain ⟨O, oc, om, hk, n0, n1⟩ := h
  have e11 := e 11 (by decide) (by decide)
  exact ⟨O, k O oc, om_row om n1 (fun j j0 j1 => e j (by omega) j1), hk.cg (fun j j0 j1 => e j j0 (by omega)), by omega, by omega⟩
theorem od_card {K T : Int → Int} (n : Nat) : ∀ {O : Int → Int}, OdR K T (n : Int) O → (∀ k : Int, O k ≠ -2 → 0 ≤ k ∧ k ≤ 36524) → cn (fun d => O d ≠ -2) 0 36525 = (n : Int) := by
  induction n with
  | zero =>
    intro O h _
    refine cn_none (fun d _ _ z => ?_)
    obtain ⟨i, i0, i1, _⟩ := h.2.1 d z
    omega
  | succ n ih =>
    intro O h hk
    have hl := h.at (i := (n : Int)) (k := K n) (by omega) (by omega) rfl
    have h2 : OdR K T (n : Int) (upO O (K n) (-2)) := h.shift (i := (n : Int)) (by omega) (by omega) rfl (by omega) (fun j j0 j1 => ⟨rfl, rfl⟩) (fun j j0 j1 => absurd j1 (by omega))
    have hk2 : ∀ k : Int, upO O (K n) (-2) k ≠ -2 → 0 ≤ k ∧ k ≤ 36524 := fun k z => by
      by_cases q : k = K n
      · rw [q, upO_s] at z; exact absurd rfl z
      · rw [upO_n q] at z; exact hk k z
    have b := hk _ hl.2.1
    have e : ∀ d : Int, O d ≠ -2 ↔ (upO O (K n) (-2) d ≠ -2 ∨ d = K n) := fun d => by
      by_cases q : d = K n
      · exact ⟨fun _ => Or.inr q, fun _ => by rw [q]; exact hl.2.1⟩
      · rw [upO_n q]; exact ⟨fun z => Or.inl z, fun z => z.elim id (fun w => absurd w q)⟩
    have c := cn_put (p := fun d => upO O (K n) (-2) d ≠ -2) (q := fun d => O d ≠ -2) (k := K n) b.1 b.2 (fun z => z upO_s) e
    rw [c, ih h2 hk2]
    omega
theorem OdR.card {K T O : Int → Int} {n : Int} (h : OdR K T n O) (n0 : 0 ≤ n) (hk : ∀ k : Int, O k ≠ -2 → 0 ≤ k ∧ k ≤ 36524) : n = cn (fun d => O d ≠ -2) 0 36525 := by
  obtain ⟨m, rfl⟩ := Int.eq_ofNat_of_zero_le n0
  exact (od_card m h hk).symm
theorem oo_n {f : Nat → va_E} {b : Nat} {g : Int → Int} {p : Int} {O : Int → Int} (oc : OC f b O) (om : OM g p O) (hk : ∀ k : Int, O k ≠ -2 → 0 ≤ k ∧ k ≤ 36524) (n0 : 0 ≤ g (p + 11)) (c0 : 0 ≤ fI f b 10) : fI f b 10 = g (p + 11) := by
  have h : OdR (fun i => g (p + 12 + 2 * i)) (fun i => g (p + 13 + 2 * i)) (g (p + 11)) O := om
  have k : OdR (aI f (KA f b)) (aI f (TA f b)) (fI f b 10) O := oc
  exact (k.card c0 hk).trans (h.card n0 hk).symm
/-! ===== the arrays of all rows are apart ===== -/
def AAR (f : Nat → va_E) (rq ro : Int → Nat) : Prop := ∀ i j : Int, 0 ≤ i → i < 12 → 0 ≤ j → j < 12 → AD f (rq i) (ro j)
def AX (f : Nat → va_E) (rq : Int → Nat) (rr : Int → Int → Nat) (N : Int → Int) : Prop := ARS f rq ∧ (∀ j : Int, 0 ≤ j → j ≤ 1 → 0 ≤ N j → ARS f (rr j) ∧ AAR f rq (rr j)) ∧ ∀ j k : Int, 0 ≤ j → j ≤ 1 → 0 ≤ k → k ≤ 1 → j ≠ k → 0 ≤ N j → 0 ≤ N k → AAR f (rr j) (rr k)
def OX (f : Nat → va_E) (rq : Int → Nat) (rr : Int → Int → Nat) (g : Int → Int) (m : Int) (G : Int → Int → Int) (N : Int → Int) : Prop := AX f rq rr N ∧ (∀ i : Int, 0 ≤ i → i < m → OO f (rq i) g (44 * i)) ∧ ∀ j : Int, 0 ≤ j → j ≤ 1 → 0 ≤ N j → ∀ i : Int, 0 ≤ i → i < N j → OO f (rr j i) (G j) (44 * i)
def KS (f f1 : Nat → va_E) (ro : Int → Nat) : Prop := ∀ i : Int, 0 ≤ i → i < 12 → KA f1 (ro i) = KA f (ro i) ∧ TA f1 (ro i) = TA f (ro i)
theorem ARS.ks {f f1 : Nat → va_E} {rq : Int → Nat} (h : ARS f rq) (k : KS f f1 rq) : ARS f1 rq :=
  ⟨fun i i0 i1 => by rw [(k i i0 i1).1, (k i i0 i1).2]; exact h.1 i i0 i1, fun i j i0 i1 j0 j1 n => (h.2 i j i0 i1 j0 j1 n).ka (k i i0 i1) (k j j0 j1)⟩
theorem AAR.ks {f f1 : Nat → va_E} {rq ro : Int → Nat} (h : AAR f rq ro) (k : KS f f1 rq) (l : KS f f1 ro) : AAR f1 rq ro := fun i j i0 i1 j0 j1 => (h i j i0 i1 j0 j1).ka (k i i0 i1) (l j j0 j1)
theorem AAR.symm {f : Nat → va_E} {rq ro : Int → Nat} (h : AAR f rq ro) : AAR f ro rq := fun i j i0 i1 j0 j1 => (h j i j0 j1 i0 i1).symm
theorem AX.ks {f f1 : Nat → va_E} {rq : Int → Nat} {rr : Int → Int → Nat} {N : Int → Int} (h : AX f rq rr N) (k : KS f f1 rq) (kk : ∀ j : Int, 0 ≤ j → j ≤ 1 → 0 ≤ N j → KS f f1 (rr j)) : AX f1 rq rr N :=
  ⟨h.1.ks k, fun j j0 j1 n => ⟨(h.2.1 j j0 j1 n).1.ks (kk j j0 j1 n), (h.2.1 j j0 j1 n).2.ks k (kk j j0 j1 n)⟩, fun j i j0 j1 i0 i1 ne n1 n2 => (h.2.2 j i j0 j1 i0 i1 ne n1 n2).ks (kk j j0 j1 n1) (kk i i0 i1 n2)⟩
theorem AX.adr {f : Nat → va_E} {rq : Int → Nat} {rr : Int → Int → Nat} {N : Int → Int} (h : AX f rq rr N) {j : Int} (j0 : 0 ≤ j) (j1 : j ≤ 1) (n : 0 ≤ N j) : ADR f rq (rr j) ∧ ADR f (rr j) rq :=
  ⟨⟨(h.2.1 j j0 j1 n).2, h.1.2, h.1.1⟩, ⟨(h.2.1 j j0 j1 n).2.symm, (h.2.1 j j0 j1 n).1.2, (h.2.1 j j0 j1 n).1.1⟩⟩
/-- some rows keep their odds and arrays -/
def KO (f f1 : Nat → va_E) (ro : Int → Nat) (n : Int) : Prop := KS f f1 ro ∧ ∀ i : Int, 0 ≤ i → i < n → ∀ O : Int → Int, OC f (ro i) O → OC f1 (ro i) O
theorem KO.trans {f f1 f2 : Nat → va_E} {ro : Int → Nat} {n : Int} (a : KO f f1 ro n) (b : KO f1 f2 ro n) : KO f f2 ro n :=
  ⟨fun i i0 i1 => ⟨(b.1 i i0 i1).1.trans (a.1 i i0 i1).1, (b.1 i i0 i1).2.trans (a.1 i i0 i1).2⟩, fun i i0 i1 O h => b.2 i i0 i1 O (a.2 i i0 i1 O h)⟩
theorem KO.eh {cy : Cy} {f f1 : Nat → va_E} {ro : Int → Nat} {n : Int} (z : Eh cy f f1) : KO f f1 ro n :=
  ⟨fun i _ _ => ⟨KA_W (z.2.1 _ 11 (by decide) (by decide)), TA_W (z.2.1 _ 12 (by decide) (by decide))⟩, fun i _ _ O h => h.eh z⟩
theorem KO.w {f f1 : Nat → va_E} {ro : Int → Nat} {n : Int} (e : ∀ y k : Nat, k ≠ 1 → fV f1 y k = fV f y k) (a : ∀ (y : Nat) (j : Int), aI f1 y j = aI f y j) : KO f f1 ro n :=
  ⟨fun i _ _ => ⟨KA_W (e _ 11 (by decide)), TA_W (e _ 12 (by decide))⟩, fun i _ _ O h => h.keep (e _ 10 (by decide)) (e _ 11 (by decide)) (e _ 12 (by decide)) (fun j => a _ j) (fun j => a _ j)⟩
theorem OC.offE {cy : Cy} {M : List Nat} {f f1 : Nat → va_E} {b : Nat} {O : Int → Int} {E : Nat → Prop} (h : OC f b O) (hg : GI cy M f) (mb : b ∈ M) (ob : Ob f b 0) (nb : ¬ E b) (na : ∀ a : Nat, ArI f a cy.2.1 16 → ¬ E a) (e : ∀ y ∈ M, ¬ E y → f1 y = f y) : OC f1 b O := by
  obtain ⟨⟨_, _, a1, a2⟩, k1, k2⟩ := AO.in hg mb ob
  have eb := e b mb nb
  have w : ∀ k : Nat, fV f1 b k = fV f b k := fun k => by unfold fV; rw [eb]
  exact h.keep (w 10) (w 11) (w 12) (fun j => aI_ofc (e _ k1 (na _ a1))) (fun j => aI_ofc (e _ k2 (na _ a2)))
theorem KO.offE {cy : Cy} {M : List Nat} {f f1 : Nat → va_E} {ro : Int → Nat} {n : Int} {E : Nat → Prop} (hg : GI cy M f) (hn : n ≤ 12) (mr : ∀ i : Int, 0 ≤ i → i < 12 → ro i ∈ M) (ho : ∀ i : Int, 0 ≤ i → i < 12 → Ob f (ro i) 0) (nb : ∀ i : Int, 0 ≤ i → i < 12 → ¬ E (ro i)) (na : ∀ a : Nat, ArI f a cy.2.1 16 → ¬ E a) (e : ∀ y ∈ M, ¬ E y → f1 y = f y) : KO f f1 ro n :=
  ⟨fun i i0 i1 => KA_of (e _ (mr i i0 i1) (nb i i0 i1)), fun i i0 i1 O h => h.offE hg (mr i i0 (by omega)) (ho i i0 (by omega)) (nb i i0 (by omega)) na e⟩
theorem KO.eo {f f1 : Nat → va_E} {a : Nat} {ro : Int → Nat} {n : Int} (z : Eo f f1 a) (ne : ∀ i : Int, 0 ≤ i → i < n → ro i ≠ a) (d : ∀ i : Int, 0 ≤ i → i < n → AD f (ro i) a) : KO f f1 ro n :=
  ⟨fun i _ _ => z.ka _, fun i i0 i1 O h => h.eo z (ne i i0 i1) (d i i0 i1)⟩
theorem KO.em {P : Nat → Prop} {f f1 : Nat → va_E} {ro : Int → Nat} {n : Int} (z : Em P f f1) (nb : ∀ i : Int, 0 ≤ i → i < n → ¬ P (ro i)) (d : ∀ i : Int, 0 ≤ i → i < n → ∀ c : Nat, P c → (fR f c 11 ≠ some (KA f (ro i)) ∧ fR f c 12 ≠ some (KA f (ro i))) ∧ (fR f c 11 ≠ some (TA f (ro i)) ∧ fR f c 12 ≠ some (TA f (ro i)))) : KO f f1 ro n :=
  ⟨fun i _ _ => z.ka _, fun i i0 i1 O h => h.em z (nb i i0 i1) (d i i0 i1)⟩
theorem OX.ko {f f1 : Nat → va_E} {rq : Int → Nat} {rr : Int → Int → Nat} {g N : Int → Int} {G : Int → Int → Int} {m : Int} (h : OX f rq rr g m G N) (k : KO f f1 rq m) (kk : ∀ j : Int, 0 ≤ j → j ≤ 1 → 0 ≤ N j → KO f f1 (rr j) (N j)) : OX f1 rq rr g m G N :=
  ⟨h.1.ks k.1 (fun j j0 j1 n => (kk j j0 j1 n).1), fun i i0 i1 => (h.2.1 i i0 i1).to (k.2 i i0 i1) (fun _ _ _ => rfl), fun j j0 j1 n i i0 i1 => (h.2.2 j j0 j1 n i i0 i1).to ((kk j j0 j1 n).2 i i0 i1) (fun _ _ _ => rfl)⟩
theorem OX.eq {f : Nat → va_E} {rq : Int → Nat} {rr : Int → Int → Nat} {g g' N N' : Int → Int} {G G' : Int → Int → Int} {m m' : Int} (h : OX f rq rr g m G N) (eg : ∀ y : Int, g' y = g y) (em : m' = m) (eG : ∀ j y : Int, G' j y = G j y) (eN : ∀ j : Int, N' j = N j) : OX f rq rr g' m' G' N' := by
  have e1 : g' = g := funext eg
  have e2 : G' = G := funext fun j => funext fun y => eG j y
  have e3 : N' = N := funext eN
  rw [e1, e2, e3, em]
  exact h
/-- the main rows are told anew, the images stay -/
theorem OX.main {f f1 : Nat → va_E} {rq : Int → Nat} {rr : Int → Int → Nat} {g g' N : Int → Int} {G : Int → Int → Int} {m m' : Int} (h : OX f rq rr g m G N) (k : KS f f1 rq) (kk : ∀ j : Int, 0 ≤ j → j ≤ 1 → 0 ≤ N j → KO f f1 (rr j) (N j)) (hm : ∀ i : Int, 0 ≤ i → i < m' → OO f1 (rq i) g' (44 * i)) : OX f1 rq rr g' m' G N :=
  ⟨h.1.ks k (fun j j0 j1 n => (kk j j0 j1 n).1), hm, fun j j0 j1 n i i0 i1 => (h.2.2 j j0 j1 n i i0 i1).to ((kk j j0 j1 n).2 i i0 i1) (fun _ _ _ => rfl)⟩
/-! ===== where the rows lie ===== -/
theorem CW.rqs {cy : Cy} {M : List Nat} {f : Nat → va_E} {x im tp : Nat} {rq : Int → Nat} {rr : Int → Int → Nat} {g N T : Int → Int} {G : Int → Int → Int} {m n : Int} (c : CW f x rq rr im tp g m G N T n) (hg : GI cy M f) (mx : x ∈ M) (ox : Ob f x 7) : 0 ≤ m ∧ m ≤ 12 ∧ (∀ i : Int, 0 ≤ i → i < 12 → rq i ∈ M) ∧ (∀ i : Int, 0 ≤ i → i < 12 → Ob f (rq i) 0) ∧ ∀ i j : Int, 0 ≤ i → i < 12 → 0 ≤ j → j < 12 → rq i = rq j → i = j := by
  obtain ⟨sh, es, sr, m0, m1⟩ := c.1
  exact ⟨m0, m1, rows_in hg mx ox es sr, sr.1.2.2.1, sr.1.2.2.2⟩
theorem CW.rrs {cy : Cy} {M : List Nat} {f : Nat → va_E} {x im tp : Nat} {rq : Int → Nat} {rr : Int → Int → Nat} {g N T : Int → Int} {G : Int → Int → Int} {m n : Int} (c : CW f x rq rr im tp g m G N T n) (hg : GI cy M f) (mx : x ∈ M) (ox : Ob f x 7) {j : Int} (j0 : 0 ≤ j) (j1 : j ≤ 1) (nj : 0 ≤ N j) : N j ≤ 12 ∧ (∀ i : Int, 0 ≤ i → i < 12 → rr j i ∈ M) ∧ (∀ i : Int, 0 ≤ i → i < 12 → Ob f (rr j i) 0) ∧ ∀ i k : Int, 0 ≤ i → i < 12 → 0 ≤ k → k < 12 → rq i ≠ rr j k := by
  obtain ⟨_, eim, ir, _⟩ := c
  obtain ⟨mi, oi⟩ := im_in hg mx ox eim
  rcases ir j j0 j1 with ⟨q1, q2⟩ | ⟨q1, q2, s, q3, q4, q5⟩
  · exact absurd nj (by omega)
  · have z := ims_in hg mi oi j0 (by omega) q3
    obtain ⟨_, _, _, _, hrow⟩ := rows_of hg z.1 q4.1
    exact ⟨q2, fun i i0 i1 => (hrow i i0 i1).2, q4.1.2.2.1, q5⟩
/-! ===== readers; feed, end ===== -/
theorem OX.eh {cy : Cy} {f f1 : Nat → va_E} {rq : Int → Nat} {rr : Int → Int → Nat} {g N : Int → Int} {G : Int → Int → Int} {m : Int} (h : OX f rq rr g m G N) (z : Eh cy f f1) : OX f1 rq rr g m G N := h.ko (KO.eh z) (fun _ _ _ _ => KO.eh z)
theorem OX.stay {cy : Cy} {M : List Nat} {f f1 : Nat → va_E} {x im tp : Nat} {rq : Int → Nat} {rr : Int → Int → Nat} {g N T : Int → Int} {G : Int → Int → Int} {m n : Int} {E : Nat → Prop} (o : OX f rq rr g m G N) (c : CW f x rq rr im tp g m G N T n) (hg : GI cy M f) (mx : x ∈ M) (ox : Ob f x 7) (e : ∀ y ∈ M, ¬ E y → f1 y = f y) (n0 : ∀ y : Nat, Ob f y 0 → ¬ E y) (na : ∀ a : Nat, ArI f a cy.2.1 16 → ¬ E a) : OX f1 rq rr g m G N := by
  obtain ⟨m0, m1, mr, ho, hi⟩ := c.rqs hg mx ox
  refine o.ko (KO.offE hg m1 mr ho (fun i i0 i1 => n0 _ (ho i i0 i1)) na e) (fun j j0 j1 nj => ?_)
  obtain ⟨r1, r2, r3, _⟩ := c.rrs hg mx ox j0 j1 nj
  exact KO.offE hg r1 r2 r3 (fun i i0 i1 => n0 _ (r3 i i0 i1)) na e
theorem OX.off {cy : Cy} {M : List Nat} {f f1 : Nat → va_E} {x im tp : Nat} {rq : Int → Nat} {rr : Int → Int → Nat} {g N T : Int → Int} {G : Int → Int → Int} {m n : Int} (o : OX f rq rr g m G N) (c : CW f x rq rr im tp g m G N T n) (hg : GI cy M f) (mx : x ∈ M) (ox : Ob f x 7) (e : ∀ y ∈ M, f1 y = f y) : OX f1 rq rr g m G N := o.stay (E := fun _ => False) c hg mx ox (fun y q _ => e y q) (fun _ _ z => z) (fun _ _ z => z)
theorem OX.own {cy : Cy} {M : List Nat} {f f1 : Nat → va_E} {x im tp : Nat} {rq : Int → Nat} {rr : Int → Int → Nat} {g N T : Int → Int} {G : Int → Int → Int} {m n : Int} (o : OX f rq rr g m G N) (c : CW f x rq rr im tp g m G N T n) (hg : GI cy M f) (mx : x ∈ M) (ox : Ob f x 7) (e : ∀ y ∈ M, y ≠ x → y ≠ tp → f1 y = f y) : OX f1 rq rr g m G N := by
  obtain ⟨mt, ot⟩ := tape_in hg mx ox c.2.2.2.2.1
  refine o.stay (E := fun y => y = x ∨ y = tp) c hg mx ox (fun y q z => e y q (fun w => z (Or.inl w)) (fun w => z (Or.inr w))) (fun y oy z => ?_) (fun a oa z => ?_)
  · rcases z with z | z
    · rw [z] at oy; exact absurd (ox.uniq oy) (by decide)
    · rw [z] at oy; exact oy.notI ot
  · rcases z with z | z
    · rw [z] at oa; exact ox.notI oa
    · rw [z] at oa; exact absurd (ArI_len oa ot) (by decide)
/-! ===== book ===== -/
theorem OX.bk {cy : Cy} {M : List Nat} {f f1 : Nat → va_E} {x im tp : Nat} {rq : Int → Nat} {rr : Int → Int → Nat} {g N T : Int → Int} {G : Int → Int → Int} {m n : Int} (c : CW f x rq rr im tp g m G N T n) (hg : GI cy M f) (mx : x ∈ M) (ox : Ob f x 7) (m2 : m < 12) (e : ∀ y ∈ M, y ≠ x → y ≠ rq m → f1 y = f y) (fn : FN f f1 (rq m)) : KO f f1 rq m ∧ ∀ j : Int, 0 ≤ j → j ≤ 1 → 0 ≤ N j → KO f f1 (rr j) (N j) := by
  obtain ⟨m0, m1, mr, ho, hi⟩ := c.rqs hg mx ox
  have nx : ∀ y : Nat, Ob f y 0 → y ≠ x := fun y oy z => by rw [z] at oy; exact absurd (ox.uniq oy) (by decide)
  have na : ∀ a : Nat, ArI f a cy.2.1 16 → ¬ (a = x ∨ a = rq m) := fun a oa z => by
    rcases z with z | z
    · rw [z] at oa; exact ox.notI oa
    · rw [z] at oa; exact (ho m m0 m2).notI oa
  have ee : ∀ y ∈ M, ¬ (y = x ∨ y = rq m) → f1 y = f y := fun y q z => e y q (fun w => z (Or.inl w)) (fun w => z (Or.inr w))
  have nb : ∀ i : Int, 0 ≤ i → i < 12 → i ≠ m → ¬ (rq i = x ∨ rq i = rq m) := fun i i0 i1 q z => z.elim (nx _ (ho i i0 i1)) (fun w => q (hi i m i0 i1 m0 m2 w))
  refine ⟨⟨fun i i0 i1 => ?_, fun i i0 i1 O h => OC.offE (E := fun y => y = x ∨ y = rq m) h hg (mr i i0 (by omega)) (ho i i0 (by omega)) (nb i i0 (by omega) (by omega)) na ee⟩, fun j j0 j1 nj => ?_⟩
  · by_cases q : i = m
    · rw [q]; exact ⟨KA_W fn.1, TA_W fn.2⟩
    · exact KA_of (ee _ (mr i i0 i1) (nb i i0 i1 q))
  · obtain ⟨r1, r2, r3, r4⟩ := c.rrs hg mx ox j0 j1 nj
    exact KO.offE (E := fun y => y = x ∨ y = rq m) hg r1 r2 r3 (fun i i0 i1 z => z.elim (nx _ (r3 i i0 i1)) (fun w => r4 m i m0 m2 i0 i1 w.symm)) na ee
theorem OX.booked {cy : Cy} {M : List Nat} {f f9 f1 : Nat → va_E} {x im tp sh : Nat} {rq : Int → Nat} {rr : Int → Int → Nat} {g g' N T : Int → Int} {G : Int → Int → Int} {m n : Int} (o : OX f rq rr g m G N) (c : CW f x rq rr im tp g m G N T n) (hg : GI cy M f) (mx : x ∈ M) (ox : Ob f x 7) (m2 : m < 12) (e : ∀ y ∈ M, y ≠ x → y ≠ rq m → f9 y = f y) (fn : FN f f9 (rq m)) (z10 : fI f9 (rq m) 10 = 0) (rk : RK f9 f1 sh) (g1 : ∀ y : Int, 0 ≤ y → y < 44 * m → g' y = g y) (g11 : g' (44 * m + 11) = 0) : OX f1 rq rr g' (m + 1) G N := by
  obtain ⟨k, kk⟩ := OX.bk c hg mx ox m2 e fn
  have w : ∀ (ro : Int → Nat) (n : Int), KO f9 f1 ro n := fun ro n => KO.w (fun y k q => rk.1 y k (Or.inr q)) rk.2.2
  have k1 := k.trans (w rq m)
  refine o.main k1.1 (fun j j0 j1 nj => (kk j j0 j1 nj).trans (w _ _)) (fun i i0 i1 => ?_)
  by_cases q : i = m
  · rw [q]
    refine ⟨fun _ => -2, ?_, ?_, OKk.nil _ _, by omega, by omega⟩
    · exact OdR.nil ((fI_W (rk.1 _ 10 (Or.inr (by decide)))).trans z10)
    · exact OdR.nil g11
  · exact (o.2.1 i i0 (by omega)).to (k1.2 i i0 (by omega)) (fun j j0 j1 => g1 _ (by omega) (by omega))
/-! ===== cancel ===== -/
theorem OX.cancel {f f1 : Nat → va_E} {rq : Int → Nat} {rr : Int → Int → Nat} {g g' N : Int → Int} {G : Int → Int → Int} {m c : Int} {sh ar : Nat} (o : OX f rq rr g m G N) (m1 : m ≤ 12) (c0 : 0 ≤ c) (c1 : c < m) (rm : RM f f1 sh ar) (g1 : ∀ y : Int, 0 ≤ y → y < 44 * c → g' y = g y) (g2 : ∀ y : Int, 44 * c ≤ y → y < 44 * (m - 1) → g' y = g (y + 44)) : OX f1 (rmv rq c (m - 1)) rr g' (m - 1) G N := by
  have w : ∀ (ro : Int → Nat) (n : Int), KO f f1 ro n := fun ro n => KO.w (fun y k q => rm.1 y k (Or.inr q)) rm.2.2
  have o1 := o.ko (w _ _) (fun j _ _ _ => w _ _)
  have pr : ∀ i : Int, 0 ≤ i → i < 12 → 0 ≤ pmv c (m - 1) i ∧ pmv c (m - 1) i < 12 := fun i i0 i1 => pmv_r c0 (by omega) (by omega) i0 i1
  obtain ⟨⟨a1, a2, a3⟩, b1, b2⟩ := o1
  refine ⟨⟨⟨fun i i0 i1 => ?_, fun i j i0 i1 j0 j1 n => ?_⟩, fun j j0 j1 n => ⟨(a2 j j0 j1 n).1, fun i k i0 i1 k0 k1 => ?_⟩, a3⟩, fun i i0 i1 => ?_, b2⟩
  · rw [rmv_pm]; exact a1.1 _ (pr i i0 i1).1 (pr i i0 i1).2
  · rw [rmv_pm, rmv_pm]
    exact a1.2 _ _ (pr i i0 i1).1 (pr i i0 i1).2 (pr j j0 j1).1 (pr j j0 j1).2 (fun z => n (pmv_i (show c ≤ m - 1 by omega) z))
  · rw [rmv_pm]; exact (a2 j j0 j1 n).2 _ _ (pr i i0 i1).1 (pr i i0 i1).2 k0 k1
  · unfold rmv
    by_cases q : i < c
    · rw [if_pos q]
      exact (b1 i i0 (by omega)).to (fun _ h => h) (fun j j0 j1 => g1 _ (by omega) (by omega))
    · rw [if_neg q, if_pos i1]
      refine (b1 (i + 1) (by omega) (by omega)).to (fun _ h => h) (fun j j0 j1 => ?_)
      rw [g2 _ (by omega) (by omega)]
      congr 1
      omega
/-! ===== drop, move, restore ===== -/
theorem OX.odd {f f1 : Nat → va_E} {rq : Int → Nat} {rr : Int → Int → Nat} {g g' N O : Int → Int} {G : Int → Int → Int} {m c : Int} (o : OX f rq rr g m G N) (m1 : m ≤ 12) (hm : ∀ i j : Int, 0 ≤ i → i < 12 → 0 ≤ j → j < 12 → rq i = rq j → i = j) (hr : ∀ j : Int, 0 ≤ j → j ≤ 1 → 0 ≤ N j → N j ≤ 12 ∧ ∀ i k : Int, 0 ≤ i → i < 12 → 0 ≤ k → k < 12 → rq i ≠ rr j k) (c0 : 0 ≤ c) (c1 : c < m) (z : Eo f f1 (rq c)) (oc : OC f1 (rq c) O) (om : OM g' (44 * c) O) (hk : OKk g' (44 * c) O) (n0 : 0 ≤ g' (44 * c + 11)) (n1 : g' (44 * c + 11) ≤ 16) (w : ∀ y : Int, 0 ≤ y → (y < 44 * c + 11 ∨ 44 * c + 43 < y) → g' y = g y) : OX f1 rq rr g' m G N := by
  refine o.main (fun i _ _ => z.ka _) (fun j j0 j1 nj => KO.eo z (fun i i0 i1 q => (hr j j0 j1 nj).2 c i c0 (by omega) i0 (by have := (hr j j0 j1 nj).1; omega) q.symm) (fun i i0 i1 => ((o.1.2.1 j j0 j1 nj).2 c i c0 (by omega) i0 (by have := (hr j j0 j1 nj).1; omega)).symm)) (fun i i0 i1 => ?_)
  by_cases q : i = c
  · rw [q]; exact ⟨O, oc, om, hk, n0, n1⟩
  · exact (o.2.1 i i0 i1).to (fun O h => h.eo z (fun e => q (hm i c i0 (by omega) c0 (by omega) e)) (o.1.1.2 i c i0 (by omega) c0 (by omega) q)) (fun j j0 j1 => w _ (by omega) (by omega))
/-! ===== split ===== -/
theorem ky_cn {p : Int → Prop} {low hi most k a : Int} (h : Ky p low hi most k) (ha : low ≤ a) : cn p a k = cn (Ky p low hi most) a k :=
  cn_cg (fun d d0 d1 => ⟨fun z => ⟨by omega, by have := h.2.1; omega, z, h.2.2.2.elim Or.inl (fun w => Or.inr (by have := cn_up (p := p) (a := low) (b := d) (c := k) (by omega); omega))⟩, fun z => z.2.2.1⟩)
theorem KG.head {g : Int → Int} {p d k : Int} (hk : KG g p k) (h : k < d) (lo : 0 ≤ g (p + 10)) : KG (HWd g p d) p k := by
  have hk2 : Ky (onK (g (p + 3)) (g (p + 4)) (g (p + 5)) (g (p + 6)) (g (p + 7))) (g (p + 10)) (HI (g (p + 8))) (g (p + 9)) k := hk
  by_cases h9 : g (p + 9) < 0
  · have e : ∀ j : Int, j ≠ 8 → HWd g p d (p + j) = g (p + j) := fun j q => by rw [HWd_u h9, updW_n (by omega)]
    have e8 : HWd g p d (p + 8) = d - 1 := by rw [HWd_u h9, updW_s]
    unfold KG
    rw [e 3 (by decide), e 4 (by decide), e 5 (by decide), e 6 (by decide), e 7 (by decide), e 9 (by decide), e 10 (by decide), e8]
    have k1 := hk2.1
    exact ⟨k1, by unfold HI; split <;> omega, hk2.2.2.1, Or.inl h9⟩
  · have e : ∀ j : Int, j ≠ 9 → HWd g p d (p + j) = g (p + j) := fun j q => by rw [HWd_t h9, updW_n (by omega)]
    have e9 : HWd g p d (p + 9) = cn (KG g p) 0 d := by rw [HWd_t h9, updW_s]
    have a1 := ky_cn hk2 (Int.le_refl _)
    have k1 := hk2.1
    have a2 := cn_add (p := KG g p) (a := 0) (b := g (p + 10)) (c := k) lo k1
    have a3 : cn (KG g p) 0 (g (p + 10)) = 0 := cn_none (fun d _ d1 z => by have := z.at.1; omega)
    have a4 := cn_lt (p := KG g p) (a := 0) (b := k) (c := d) (by omega) h hk
    have a5 : cn (onK (g (p + 3)) (g (p + 4)) (g (p + 5)) (g (p + 6)) (g (p + 7))) (g (p + 10)) k = cn (KG g p) (g (p + 10)) k := a1
    unfold KG
    rw [e 3 (by decide), e 4 (by decide), e 5 (by decide), e 6 (by decide), e 7 (by decide), e 8 (by decide), e 10 (by decide), e9]
    exact ⟨k1, hk2.2.1, hk2.2.2.1, Or.inr (by omega)⟩
theorem KG.tail {g : Int → Int} {p d k : Int} (hk : KG g p k) (h : d ≤ k) (d0 : 0 ≤ d) (lo : g (p + 10) ≤ d) (hi : k ≤ 36524) : KG (TWd g p d) p k := by
  have hk2 : Ky (onK (g (p + 3)) (g (p + 4)) (g (p + 5)) (g (p + 6)) (g (p + 7))) (g (p + 10)) (HI (g (p + 8))) (g (p + 9)) k := hk
  by_cases h9 : g (p + 9) < 0
  · have e : ∀ j : Int, j ≠ 10 → TWd g p d (p + j) = g (p + j) := fun j q => by rw [TWd_u h9, updW_n (by omega)]
    have e10 : TWd g p d (p + 10) = d := by rw [TWd_u h9, updW_s]
    unfold KG
    rw [e 3 (by decide), e 4 (by decide), e 5 (by decide), e 6 (by decide), e 7 (by decide), e 8 (by decide), e 9 (by decide), e10]
    exact ⟨h, hk2.2.1, hk2.2.2.1, Or.inl h9⟩
  · have e : ∀ j : Int, j ≠ 10 → j ≠ 9 → TWd g p d (p + j) = g (p + j) := fun j q q2 => by rw [TWd_t h9, updW_n (by omega), updW_n (by omega)]
    have e9 : TWd g p d (p + 9) = cn (KG g p) 0 36525 - cn (KG g p) 0 d := by rw [TWd_t h9, updW_s]
    have e10 : TWd g p d (p + 10) = d := by rw [TWd_t h9, updW_n (by omega), updW_s]
    have a1 := ky_cn (a := d) hk2 lo
    have a2 := cn_add (p := KG g p) (a := 0) (b := d) (c := 36525) d0 (by omega)
    have a4 := cn_lt (p := KG g p) (a := d) (b := k) (c := 36525) h (by omega) hk
    have a5 : cn (onK (g (p + 3)) (g (p + 4)) (g (p + 5)) (g (p + 6)) (g (p + 7))) d k = cn (KG g p) d k := a1
    unfold KG
    rw [e 3 (by decide) (by decide), e 4 (by decide) (by decide), e 5 (by decide) (by decide), e 6 (by decide) (by decide), e 7 (by decide) (by decide), e 8 (by decide) (by decide), e10, e9]
    exact ⟨h, hk2.2.1, hk2.2.2.1, Or.inr (by omega)⟩
theorem OKk.head {g g' : Int → Int} {p d : Int} {O : Int → Int} (h : OKk g p O) (lo : 0 ≤ g (p + 10)) (e : ∀ j : Int, 0 ≤ j → j ≤ 10 → g' (p + j) = HWd g p d (p + j)) : OKk g' p (cutH O d) := by
  have z := KG.cg (g := HWd g p d) (h := g') (p := p) (q := p) (fun j j0 j1 => e j (by omega) j1)
  intro k hk
  unfold cutH at hk ⊢
  by_cases q : d ≤ k
  · rw [if_pos q] at hk; exact absurd rfl hk
  · rw [if_neg q] at hk ⊢
    obtain ⟨h1, h2, h3, h4⟩ := h k hk
    rw [z]
    exact ⟨h1.head (by omega) lo, h2, h3, h4⟩
theorem OKk.tail {g g' : Int → Int} {p q d : Int} {O : Int → Int} (h : OKk g p O) (d0 : 0 ≤ d) (lo : g (p + 10) ≤ d) (e : ∀ j : Int, 0 ≤ j → j ≤ 10 → g' (q + j) = TWd g p d (p + j)) : OKk g' q (cutT O d) := by
  have z := KG.cg (g := TWd g p d) (h := g') (p := p) (q := q) (fun j j0 j1 => e j (by omega) j1)
  intro k hk
  unfold cutT at hk ⊢
  by_cases q : k < d
  · rw [if_pos q] at hk; exact absurd rfl hk
  · rw [if_neg q] at hk ⊢
    obtain ⟨h1, h2, h3, h4⟩ := h k hk
    rw [z]
    exact ⟨h1.tail (by omega) d0 lo h3, h2, h3, h4⟩
theorem OX.split {cy : Cy} {M : List Nat} {f f9 f1 : Nat → va_E} {x im tp sh : Nat} {rq : Int → Nat} {rr : Int → Int → Nat} {g g' N T O : Int → Int} {G : Int → Int → Int} {m n c d : Int} (o : OX f rq rr g m G N) (cw : CW f x rq rr im tp g m G N T n) (hg : GI cy M f) (mx : x ∈ M) (ox : Ob f x 7) (c0 : 0 ≤ c) (c1 : c < m) (m2 : m < 12) (em : Em (fun y => y = rq c ∨ y = rq m) f f9) (rk : RK f9 f1 sh) (oh : OC f9 (rq c) (cutH O d)) (ot : OC f9 (rq m) (cutT O d)) (hk : OKk g (44 * c) O) (d0 : 0 ≤ d) (lo : 0 ≤ g (44 * c + 10)) (cut : cn (KG g (44 * c)) 0 d ≠ 0) (mh : OM g' (44 * c) (cutH O d)) (mt : OM g' (44 * m) (cutT O d)) (bh : 0 ≤ g' (44 * c + 11) ∧ g' (44 * c + 11) ≤ 16) (bm : 0 ≤ g' (44 * m + 11) ∧ g' (44 * m + 11) ≤ 16) (g1 : ∀ y : Int, 0 ≤ y → (y < 44 * m ∧ (y < 44 * c ∨ 44 * c + 43 < y)) → g' y = g y) (g2 : ∀ j : Int, 0 ≤ j → j ≤ 10 → g' (44 * c + j) = HWd g (44 * c) d (44 * c + j)) (g3 : ∀ j : Int, 0 ≤ j → j ≤ 10 → g' (44 * m + j) = TWd g (44 * c) d (44 * c + j)) : OX f1 rq rr g' (m + 1) G N := by
  obtain ⟨m0, m1, mr, ho, hi⟩ := cw.rqs hg mx ox
  have lod : g (44 * c + 10) ≤ d := by
    obtain ⟨k, k0, k1, k2⟩ := cn_ex cut
    have := k2.at.1
    omega
  have aoc : AO cy f (rq c) := AO.of hg (mr c c0 (by omega)) (ho c c0 (by omega))
  have aom : AO cy f (rq m) := AO.of hg (mr m m0 m2) (ho m m0 m2)
  have w : ∀ (ro : Int → Nat) (n : Int), KO f9 f1 ro n := fun ro n => KO.w (fun y k q => rk.1 y k (Or.inr q)) rk.2.2
  refine o.main (fun i i0 i1 => ?_) (fun j j0 j1 nj => KO.trans (KO.em em (fun i i0 i1 z => ?_) (fun i i0 i1 y z => ?_)) (w _ _)) (fun i i0 i1 => ?_)
  · exact ⟨((w rq 0).1 i i0 i1).1.trans (em.ka _).1, ((w rq 0).1 i i0 i1).2.trans (em.ka _).2⟩
  · obtain ⟨r1, r2, r3, r4⟩ := cw.rrs hg mx ox j0 j1 nj
    exact z.elim (fun z => r4 c i c0 (by omega) i0 (by omega) z.symm) (fun z => r4 m i m0 m2 i0 (by omega) z.symm)
  · obtain ⟨r1, r2, r3, r4⟩ := cw.rrs hg mx ox j0 j1 nj
    have aa := (o.1.2.1 j j0 j1 nj).2
    rcases z with z | z
    · rw [z]; exact (aa c i c0 (by omega) i0 (by omega)).symm.fr aoc
    · rw [z]; exact (aa m i m0 m2 i0 (by omega)).symm.fr aom
  · by_cases q : i = c
    · rw [q]
      exact ⟨cutH O d, (w (fun _ => rq c) 1).2 0 (by decide) (by decide) _ oh, mh, hk.head lo g2, bh⟩
    · by_cases q2 : i = m
      · rw [q2]
        exact ⟨cutT O d, (w (fun _ => rq m) 1).2 0 (by decide) (by decide) _ ot, mt, hk.tail d0 lod g3, bm⟩
      · have nc : rq i ≠ rq c := fun z => q (hi i c i0 (by omega) c0 (by omega) z)
        have nm : rq i ≠ rq m := fun z => q2 (hi i m i0 (by omega) m0 m2 z)
        have k1 : KO f f9 (fun _ => rq i) 1 := KO.em em (fun _ _ _ z => z.elim nc nm) (fun _ _ _ y z => by
          rcases z with z | z
          · rw [z]; exact (o.1.1.2 i c i0 (by omega) c0 (by omega) q).fr aoc
          · rw [z]; exact (o.1.1.2 i m i0 (by omega) m0 m2 q2).fr aom)
        exact (o.2.1 i i0 (by omega)).to (fun O h => (w (fun _ => rq i) 1).2 0 (by decide) (by decide) O (k1.2 0 (by decide) (by decide) O h)) (fun j j0 j1 => g1 _ (by omega) (by omega))
/-! ===== back, image ===== -/
theorem OX.back {cy : Cy} {M : List Nat} {f f1 : Nat → va_E} {x im tp sh : Nat} {rq : Int → Nat} {rr : Int → Int → Nat} {g g' N T : Int → Int} {G : Int → Int → Int} {m n c : Int} (o : OX f rq rr g m G N) (cw : CW f x rq rr im tp g m G N T n) (hg : GI cy M f) (mx : x ∈ M) (ox : Ob f x 7) (c0 : 0 ≤ c) (c1 : c ≤ 1) (hN : 0 ≤ N c) (es : fR f x 2 = some sh) (co : CFO f f1 sh rq (rr c) (N c)) (g1 : ∀ y : Int, 0 ≤ y → y < 528 → g' y = G c y) : OX f1 rq rr g' (N c) G N := by
  obtain ⟨m0, m1, mr, ho, hi⟩ := cw.rqs hg mx ox
  obtain ⟨ms, o5⟩ := shelf_in hg mx ox es
  obtain ⟨q1, q2, q3, q4⟩ := cw.rrs hg mx ox c0 c1 hN
  refine o.main (fun i i0 i1 => co.1.ka _) (fun j j0 j1 nj => ?_) (fun i i0 i1 => (o.2.2 c c0 c1 hN i i0 i1).to (co.2.1 i i0 i1) (fun k k0 k1 => g1 _ (by omega) (by omega)))
  obtain ⟨r1, r2, r3, r4⟩ := cw.rrs hg mx ox j0 j1 nj
  refine KO.em co.1 (fun i i0 i1 z => ?_) (fun i i0 i1 y z => ?_)
  · rcases z with z | ⟨k, k0, k1, z⟩
    · have := r3 i i0 (by omega); rw [z] at this; exact absurd (o5.uniq this) (by decide)
    · exact r4 k i k0 k1 i0 (by omega) z.symm
  · rcases z with z | ⟨k, k0, k1, z⟩
    · rw [z, sh_none o5 (by decide), sh_none o5 (by decide)]
      exact ⟨⟨fun z => (by cases z), fun z => (by cases z)⟩, fun z => (by cases z), fun z => (by cases z)⟩
    · rw [z]
      exact ((o.1.2.1 j j0 j1 nj).2 k i k0 k1 i0 (by omega)).symm.fr (AO.of hg (mr k k0 k1) (ho k k0 k1))
theorem AD.fr2 {f : Nat → va_E} {b c : Nat} (d : AD f b c) : (fR f c 11 ≠ some (KA f b) ∧ fR f c 12 ≠ some (KA f b)) ∧ (fR f c 11 ≠ some (TA f b) ∧ fR f c 12 ≠ some (TA f b)) :=
  ⟨⟨fun e => d.1 (KA_e e), fun e => d.2.1 (TA_e e)⟩, ⟨fun e => d.2.2.1 (KA_e e), fun e => d.2.2.2 (TA_e e)⟩⟩
theorem OX.imaged {cy : Cy} {M : List Nat} {f f9 f1 : Nat → va_E} {x im tp s : Nat} {rq rn : Int → Nat} {rr : Int → Int → Nat} {g N N' T : Int → Int} {G G' : Int → Int → Int} {m n c : Int} (o : OX f rq rr g m G N) (cw : CW f x rq rr im tp g m G N T n) (hg : GI cy M f) (mx : x ∈ M) (ox : Ob f x 7) (c0 : 0 ≤ c) (c1 : c ≤ 1) (cas : (f9 = f ∧ rn = rr c ∧ 0 ≤ N c) ∨ (N c = -1 ∧ (∀ i : Int, 0 ≤ i → i < 12 → rn i ∉ M) ∧ (∀ y ∈ M, y ≠ im → f9 y = f y) ∧ ARN M f9 rn)) (sf : SF f1 s rn) (sh1 : Sh f9 f1) (co : CFO f9 f1 s rn rq m) (nc : N' c = m) (nn : ∀ j : Int, 0 ≤ j → j ≠ c → N' j = N j) (gc : ∀ y : Int, 0 ≤ y → y < 528 → G' c y = g y) (gn : ∀ j : Int, 0 ≤ j → j ≤ 1 → j ≠ c → ∀ y : Int, 0 ≤ y → y < 528 → G' j y = G j y) : OX f1 rq (rrU rr c rn) g m G' N' := by
  obtain ⟨m0, m1, mr, ho, hi⟩ := cw.rqs hg mx ox
  obtain ⟨mi, oi⟩ := im_in hg mx ox cw.2.1
  have ap := cw.2.2.2.1
  have K9 : KO f f9 rq m ∧ (∀ j : Int, 0 ≤ j → j ≤ 1 → j ≠ c → 0 ≤ N j → KO f f9 (rr j) (N j) ∧ (∀ i : Int, 0 ≤ i → i < 12 → Ob f9 (rr j i) 0) ∧ AAR f9 (rr j) rn ∧ ∀ i k : Int, 0 ≤ i → i < 12 → 0 ≤ k → k < 12 → rr j i ≠ rn k) ∧ ARS f9 rn ∧ AAR f9 rq rn := by
    rcases cas with ⟨e1, e2, e3⟩ | ⟨e1, e2, e3, e4⟩
    · rw [e1, e2]
      exact ⟨⟨fun i _ _ => ⟨rfl, rfl⟩, fun _ _ _ _ h => h⟩, fun j j0 j1 q nj => ⟨⟨fun i _ _ => ⟨rfl, rfl⟩, fun _ _ _ _ h => h⟩, (cw.rrs hg mx ox j0 j1 nj).2.2.1, o.1.2.2 j c j0 j1 c0 c1 q nj e3, fun i k i0 i1 k0 k1 => ap j c j0 j1 c0 c1 q nj e3 i k i0 i1 k0 k1⟩, (o.1.2.1 c c0 c1 e3).1, (o.1.2.1 c c0 c1 e3).2⟩
    · have n0 : ∀ y : Nat, Ob f y 0 → ¬ (y = im) := fun y oy z => by rw [z] at oy; exact oy.notR oi
      have na : ∀ a : Nat, ArI f a cy.2.1 16 → ¬ (a = im) := fun a oa z => by rw [z] at oa; exact oa.noR oi
      have inM : ∀ b : Nat, b ∈ M → Ob f b 0 → KA f9 b ∈ M ∧ TA f9 b ∈ M := fun b mb ob => by
        have k := KA_of (e3 b mb (n0 b ob))
        rw [k.1, k.2]; exact (AO.in hg mb ob).2
      have aa : ∀ ro : Int → Nat, (∀ i : Int, 0 ≤ i → i < 12 → ro i ∈ M) → (∀ i : Int, 0 ≤ i → i < 12 → Ob f (ro i) 0) → AAR f9 ro rn := fun ro h1 h2 i k i0 i1 k0 k1 => by
        have z := inM _ (h1 i i0 i1) (h2 i i0 i1)
        have w := e4.2 k k0 k1
        exact ⟨fun q => w.1 (by rw [← q]; exact z.1), fun q => w.2 (by rw [← q]; exact z.1), fun q => w.1 (by rw [← q]; exact z.2), fun q => w.2 (by rw [← q]; exact z.2)⟩
      refine ⟨KO.offE (E := fun y => y = im) hg m1 mr ho (fun i i0 i1 => n0 _ (ho i i0 i1)) na e3, fun j j0 j1 q nj => ?_, e4.1, aa rq mr ho⟩
      obtain ⟨r1, r2, r3, r4⟩ := cw.rrs hg mx ox j0 j1 nj
      exact ⟨KO.offE (E := fun y => y = im) hg r1 r2 r3 (fun i i0 i1 => n0 _ (r3 i i0 i1)) na e3, fun i i0 i1 => Ob_of (e3 _ (r2 i i0 i1) (n0 _ (r3 i i0 i1))) (r3 i i0 i1), aa _ r2 r3, fun i k i0 i1 k0 k1 z => e2 k k0 k1 (by rw [← z]; exact r2 i i0 i1)⟩
  obtain ⟨kq, kr, an, aq⟩ := K9
  have ks : ∀ ro : Int → Nat, KS f9 f1 ro := fun ro i _ _ => co.1.ka _
  have kq1 : KS f f1 rq := fun i i0 i1 => ⟨((ks rq) i i0 i1).1.trans (kq.1 i i0 i1).1, ((ks rq) i i0 i1).2.trans (kq.1 i i0 i1).2⟩
  have o5 := sf.1
  have k1 : ∀ j : Int, 0 ≤ j → j ≤ 1 → j ≠ c → 0 ≤ N j → KO f f1 (rr j) (N j) := fun j j0 j1 q nj => by
    obtain ⟨b1, b2, b3, b4⟩ := kr j j0 j1 q nj
    have nj1 := (cw.rrs hg mx ox j0 j1 nj).1
    refine b1.trans (KO.em co.1 (fun i i0 i1 z => ?_) (fun i i0 i1 y z => ?_))
    · rcases z with z | ⟨k, k0, k1, z⟩
      · have h0 := sh1.1 _ _ (b2 i i0 (by omega)); rw [z] at h0; exact absurd (o5.uniq h0) (by decide)
      · exact b4 i k i0 (by omega) k0 k1 z
    · rcases z with z | ⟨k, k0, k1, z⟩
      · rw [z, ← (co.1.r s).1, ← (co.1.r s).2, sh_none o5 (by decide), sh_none o5 (by decide)]
        exact ⟨⟨fun z => (by cases z), fun z => (by cases z)⟩, fun z => (by cases z), fun z => (by cases z)⟩
      · rw [z]; exact (b3 i k i0 (by omega) k0 k1).fr2
  refine ⟨⟨o.1.1.ks kq1, fun j j0 j1 n' => ?_, fun j k j0 j1 k0 k1' ne n1 n2 => ?_⟩, fun i i0 i1 => (o.2.1 i i0 i1).to (fun O h => co.2.2 i i0 (by omega) O (kq.2 i i0 i1 O h)) (fun _ _ _ => rfl), fun j j0 j1 n' i i0 i1 => ?_⟩
  · by_cases q : j = c
    · rw [q, rrU_s]; exact ⟨an.ks (ks _), aq.ks (ks _) (ks _)⟩
    · rw [rrU_n q]
      rw [nn j j0 q] at n'
      exact ⟨(o.1.2.1 j j0 j1 n').1.ks (k1 j j0 j1 q n').1, (o.1.2.1 j j0 j1 n').2.ks kq1 (k1 j j0 j1 q n').1⟩
  · by_cases q : j = c
    · have qk : k ≠ c := fun z => ne (q.trans z.symm)
      rw [nn k k0 qk] at n2
      rw [q, rrU_s, rrU_n qk]
      exact ((kr k k0 k1' qk n2).2.2.1.ks (ks _) (ks _)).symm
    · rw [nn j j0 q] at n1
      by_cases p : k = c
      · rw [p, rrU_s, rrU_n q]
        exact (kr j j0 j1 q n1).2.2.1.ks (ks _) (ks _)
      · exact absurd ne (by omega)
  · by_cases q : j = c
    · rw [q, nc] at i1
      rw [q, rrU_s]
      exact (o.2.1 i i0 i1).to (fun O h => co.2.1 i i0 i1 O (kq.2 i i0 i1 O h)) (fun k k0 k1 => gc _ (by omega) (by omega))
    · rw [nn j j0 q] at n' i1
      have nj1 := (cw.rrs hg mx ox j0 j1 n').1
      rw [rrU_n q]
      exact (o.2.2 j j0 j1 n' i i0 i1).to ((k1 j j0 j1 q n').2 i i0 i1) (fun k k0 k1 => gn j j0 j1 q _ (by omega) (by omega))
