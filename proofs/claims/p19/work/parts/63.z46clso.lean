/-! ===== a row of occurrences is there ===== -/
theorem LNx.go {P Q : Int → Int → Prop} {n t k : Int} (np : ¬ P t k) (e : ∀ u d : Int, Q u d ↔ (P u d ∨ (u = t ∧ d = k))) (a : Nat) : ∀ T K : Int → Int, LNx P T K 0 n (a : Int) t k → ∃ tm ks : Int → Int, LL Q tm ks (n + 1) := by
  have fill : ∀ (a : Int) (T K : Int → Int), LNx P T K 0 n a t k → (a ≤ 0 ∨ T (0 + a - 1) < t ∨ (T (0 + a - 1) = t ∧ K (0 + a - 1) ≤ k)) → ∃ tm ks : Int → Int, LL Q tm ks (n + 1) := fun a T K h ge =>
    ⟨_, _, h.fill (T' := fun x => if x = 0 + a then t else T x) (K' := fun x => if x = 0 + a then k else K x) (Int.le_refl 0) rfl ge np (if_pos rfl) (fun x _ q => if_neg q) (if_pos rfl) (fun x _ q => if_neg q) e⟩
  induction a with
  | zero => exact fun T K h => fill _ T K h (Or.inl (Int.le_refl 0))
  | succ a ih =>
    intro T K h
    rcases Classical.em (t < T (0 + ((a + 1 : Nat) : Int) - 1) ∨ (T (0 + ((a + 1 : Nat) : Int) - 1) = t ∧ k < K (0 + ((a + 1 : Nat) : Int) - 1))) with c | c
    · exact ih _ _ (h.shift (a' := (a : Int)) (T' := fun x => if x = 0 + ((a + 1 : Nat) : Int) then T (0 + ((a + 1 : Nat) : Int) - 1) else T x) (K' := fun x => if x = 0 + ((a + 1 : Nat) : Int) then K (0 + ((a + 1 : Nat) : Int) - 1) else K x) (by omega) (Int.le_refl 0) (by omega) c (if_pos rfl) (fun x _ q => if_neg q) (if_pos rfl) (fun x _ q => if_neg q))
    · exact fill _ T K h (by omega)
theorem LL.ins {P Q : Int → Int → Prop} {tm ks : Int → Int} {n t k : Int} (h : LL P tm ks n) (np : ¬ P t k) (e : ∀ u d : Int, Q u d ↔ (P u d ∨ (u = t ∧ d = k))) : ∃ tm ks : Int → Int, LL Q tm ks (n + 1) := by
  have n0 := h.1
  have h2 : LL P (fun i => tm (0 + i)) (fun i => ks (0 + i)) n := h.row rfl (fun i _ _ => by show tm (0 + i) = tm i; rw [Int.zero_add]) (fun i _ _ => by show ks (0 + i) = ks i; rw [Int.zero_add])
  have z := LNx.go np e n.toNat tm ks (LNx.enter h2 (by omega))
  exact z
theorem LL.ex {g : Int → Int} {p : Int} {O : Int → Int} (kr : ∀ t k : Int, Oc g p O t k → 0 ≤ k ∧ k ≤ 36524) : ∃ (tm ks : Int → Int) (n : Int), LL (Oc g p O) tm ks n ∧ n ≤ 36525 := by
  have key : ∀ d : Nat, ∃ (tm ks : Int → Int) (n : Int), LL (fun t k => Oc g p O t k ∧ k < d) tm ks n ∧ n ≤ d := by
    intro d
    induction d with
    | zero => exact ⟨fun _ => 0, fun _ => 0, 0, ⟨Int.le_refl 0, fun i i0 i1 => by omega, fun i j i0 ij j1 => by omega, fun t k z => by have := kr t k z.1; omega⟩, by omega⟩
    | succ d ih =>
      obtain ⟨tm, ks, n, h, hn⟩ := ih
      rcases Classical.em (∃ t : Int, Oc g p O t (d : Int)) with ⟨t, c⟩ | c
      · have eq : ∀ u k : Int, (Oc g p O u k ∧ k < ((d + 1 : Nat) : Int)) ↔ ((Oc g p O u k ∧ k < (d : Int)) ∨ (u = t ∧ k = (d : Int))) := by
          intro u k
          constructor
          · intro z
            by_cases q : k = d
            · rw [q] at z; exact Or.inr ⟨z.1.fn c, q⟩
            · exact Or.inl ⟨z.1, by have := z.2; omega⟩
          · rintro (z | ⟨z1, z2⟩)
            · exact ⟨z.1, by have := z.2; omega⟩
            · rw [z1, z2]; exact ⟨c, by omega⟩
        obtain ⟨tm', ks', h'⟩ := h.ins (t := t) (k := (d : Int)) (Q := fun t k => Oc g p O t k ∧ k < ((d + 1 : Nat) : Int)) (fun z => by have := z.2; omega) eq
        exact ⟨tm', ks', n + 1, h', by omega⟩
      · refine ⟨tm, ks, n, h.cg (fun u k => ⟨fun z => ⟨z.1, ?_⟩, fun z => ⟨z.1, by have := z.2; omega⟩⟩), by omega⟩
        by_cases q : k = d
        · rw [q] at z; exact absurd ⟨u, z.1⟩ c
        · have := z.2; omega
  obtain ⟨tm, ks, n, h, hn⟩ := key 36525
  exact ⟨tm, ks, n, h.cg (fun t k => ⟨fun z => ⟨z, by have := kr t k z; omega⟩, fun z => z.1⟩), by omega⟩
/-! ===== sums ===== -/
def sm (F : Int → Int) : Nat → Int
  | 0 => 0
  | n + 1 => sm F n + F (n : Int)
theorem sm_cg {F G : Int → Int} (n : Nat) : (∀ i : Int, 0 ≤ i → i < n → F i = G i) → sm F n = sm G n := by
  induction n with
  | zero => intro _; rfl
  | succ n ih =>
    intro h
    show sm F n + F (n : Int) = sm G n + G (n : Int)
    rw [ih (fun i i0 i1 => h i i0 (by omega)), h n (by omega) (by omega)]
theorem sm_add {F G : Int → Int} (n : Nat) : sm (fun i => F i + G i) n = sm F n + sm G n := by
  induction n with
  | zero => rfl
  | succ n ih =>
    show sm (fun i => F i + G i) n + (F (n : Int) + G (n : Int)) = sm F n + F (n : Int) + (sm G n + G (n : Int))
    rw [ih]; omega
theorem sm_zero {F : Int → Int} (n : Nat) : (∀ i : Int, 0 ≤ i → i < n → F i = 0) → sm F n = 0 := by
  induction n with
  | zero => intro _; rfl
  | succ n ih =>
    intro h
    show sm F n + F (n : Int) = 0
    rw [ih (fun i i0 i1 => h i i0 (by omega)), h n (by omega) (by omega)]; rfl
theorem sm_more {F : Int → Int} {j n : Nat} (h : j ≤ n) (z : ∀ i : Int, j ≤ i → i < n → F i = 0) : sm F n = sm F j := by
  induction n with
  | zero => rw [show j = 0 by omega]
  | succ n ih =>
    rcases Nat.lt_or_ge n j with c | c
    · rw [show j = n + 1 by omega]
    · show sm F n + F (n : Int) = sm F j
      rw [ih c (fun i i0 i1 => z i i0 (by omega)), z n (by omega) (by omega)]; omega
noncomputable def ind1 (p : Prop) : Int := @ite Int p (Classical.propDecidable _) 1 0
theorem ind1_y {p : Prop} (h : p) : ind1 p = 1 := by unfold ind1; rw [if_pos h]
theorem ind1_n {p : Prop} (h : ¬ p) : ind1 p = 0 := by unfold ind1; rw [if_neg h]
theorem sm_cn {p : Int → Prop} (n : Nat) : sm (fun i => ind1 (p i)) n = cn p 0 n := by
  induction n with
  | zero => rw [cn_le (by omega)]; rfl
  | succ n ih =>
    show sm (fun i => ind1 (p i)) n + ind1 (p (n : Int)) = _
    rw [show ((n + 1 : Nat) : Int) = (n : Int) + 1 by omega]
    rcases Classical.em (p (n : Int)) with c | c
    · rw [cn_yes (by omega) c, ind1_y c, ih]
    · rw [cn_no (by omega) c, ind1_n c, ih]; omega
theorem cn_one' {q : Int → Int → Prop} {i j : Int} (i0 : 0 ≤ i) : cn (fun l => q l j) 0 (i + 1) = cn (fun l => q l j) 0 i + ind1 (q i j) := by
  rcases Classical.em (q i j) with c | c
  · rw [cn_yes (p := fun l => q l j) i0 c, ind1_y c]
  · rw [cn_no (p := fun l => q l j) i0 c, ind1_n c]; omega
/-- twos are counted from either side -/
theorem sm_swap {q : Int → Int → Prop} {m : Nat} (n : Nat) : sm (fun i => cn (fun j => q i j) 0 m) n = sm (fun j => cn (fun i => q i j) 0 n) m := by
  induction n with
  | zero =>
    show (0 : Int) = _
    exact (sm_zero m (fun j _ _ => cn_le (by omega))).symm
  | succ n ih =>
    show sm (fun i => cn (fun j => q i j) 0 m) n + cn (fun j => q (n : Int) j) 0 m = _
    rw [ih, ← sm_cn (p := fun j => q (n : Int) j) m, ← sm_add]
    refine (sm_cg m (fun j _ _ => ?_)).symm
    rw [show ((n + 1 : Nat) : Int) = (n : Int) + 1 by omega]
    exact cn_one' (by omega)
theorem cn_split {p q r : Int → Prop} {n : Int} (e : ∀ j : Int, 0 ≤ j → j < n → (p j ↔ (q j ∨ r j))) (d : ∀ j : Int, 0 ≤ j → j < n → ¬ (q j ∧ r j)) : cn p 0 n = cn q 0 n + cn r 0 n := (cn_cg e).trans (cn_or d)
/-! ===== clashes: how many twos ===== -/
/-- the class's sum over the later one's occurrences -/
noncomputable def CMs (tm : Int → Int) (n u v : Int) (F : Int → Int) : Int := sm (fun i => if u ≤ tm i ∧ tm i ≤ v then F (tm i) else 0) n.toNat
/-- j of them are counted, the j-th one is sought -/
def CMI (P : Int → Int → Prop) (tm ks : Int → Int) (n u v : Int) (F : Int → Int) (T K i c : Int) : Prop := ∃ j : Int, 0 ≤ j ∧ j ≤ n ∧ i ≤ j ∧ c = CMs tm j u v F ∧ ((j < n ∧ T = tm j ∧ K = ks j ∧ u ≤ T) ∨ (j = n ∧ K = -1))
theorem sk_row {P : Int → Int → Prop} {tm ks : Int → Int} {n u k T K : Int} (h : LL P tm ks n) (s : Sk P u k T K) : (∃ j : Int, 0 ≤ j ∧ j < n ∧ T = tm j ∧ K = ks j ∧ (∀ l : Int, 0 ≤ l → l < j → Lx (tm l) (ks l) u k) ∧ ¬ Lx (tm j) (ks j) u k) ∨ (K = -1 ∧ ∀ l : Int, 0 ≤ l → l < n → Lx (tm l) (ks l) u k) := by
  rcases s with ⟨s1, s2, s3⟩ | ⟨s1, s2, s3⟩
  · exact Or.inr ⟨s1, fun l l0 l1 => s3 _ _ (h.2.1 l l0 l1)⟩
  · obtain ⟨j, j0, j1, j2, j3⟩ := h.2.2.2 T K s1
    refine Or.inl ⟨j, j0, j1, j2.symm, j3.symm, fun l l0 l1 => ?_, by rw [j2, j3]; exact s2⟩
    rcases Classical.em (Lx (tm l) (ks l) u k) with c | c
    · exact c
    · have a := s3 _ _ (h.2.1 l l0 (by omega)) c
      have b := h.2.2.1 l j l0 l1 j1
      rw [j2, j3] at b
      exact absurd b a
theorem CMI.start {P : Int → Int → Prop} {tm ks : Int → Int} {n u v T K i c : Int} {F : Int → Int} (h : LL P tm ks n) (s : Sk P u 0 T K) (pk : ∀ t k : Int, P t k → 0 ≤ k) (hi : i = 0) (hc : c = 0) : CMI P tm ks n u v F T K i c := by
  subst hi
  subst hc
  have low : ∀ l : Int, 0 ≤ l → l < n → Lx (tm l) (ks l) u 0 → tm l < u := fun l l0 l1 z => by
    have := pk _ _ (h.2.1 l l0 l1)
    unfold Lx at z
    omega
  rcases sk_row h s with ⟨j, j0, j1, j2, j3, j4, j5⟩ | ⟨k1, k2⟩
  · refine ⟨j, j0, by omega, j0, (sm_zero _ (fun i i0 i1 => if_neg (fun z => ?_))).symm, Or.inl ⟨j1, j2, j3, ?_⟩⟩
    · have := low i i0 (by omega) (j4 i i0 (by omega)); omega
    · unfold Lx at j5; omega
  · refine ⟨n, h.1, Int.le_refl n, h.1, (sm_zero _ (fun i i0 i1 => if_neg (fun z => ?_))).symm, Or.inr ⟨rfl, k1⟩⟩
    have := low i i0 (by omega) (k2 i i0 (by omega)); omega
theorem CMI.step {P : Int → Int → Prop} {tm ks : Int → Int} {n u v T K T' K' i i' c c' k : Int} {F : Int → Int} (h : LL P tm ks n) (q : CMI P tm ks n u v F T K i c) (hK : K ≠ -1) (le : T ≤ v) (s : Sk P T k T' K') (ek : k = K + 1) (ec : c' = c + F T) (ei : i' = i + 1) : CMI P tm ks n u v F T' K' i' c' := by
  subst ek
  subst ec
  subst ei
  obtain ⟨j, j0, j1, j2, j3, j4⟩ := q
  rcases j4 with ⟨j4, j5, j6, j7⟩ | ⟨j4, j5⟩
  · have sum : c + F T = CMs tm (j + 1) u v F := by
      unfold CMs at j3 ⊢
      rw [show (j + 1).toNat = j.toNat + 1 by omega]
      show c + F T = sm _ j.toNat + (if u ≤ tm ((j.toNat : Nat) : Int) ∧ tm ((j.toNat : Nat) : Int) ≤ v then F (tm ((j.toNat : Nat) : Int)) else 0)
      rw [show ((j.toNat : Nat) : Int) = j by omega, ← j5, if_pos ⟨j7, le⟩, ← j3]
    have up : ∀ l : Int, j < l → l < n → ¬ Lx (tm l) (ks l) T (K + 1) := fun l l0 l1 z => by
      have w := h.2.2.1 j l j0 l0 l1
      rw [← j5, ← j6] at w
      unfold Lx at z w
      omega
    have me : ∀ l : Int, 0 ≤ l → l ≤ j → Lx (tm l) (ks l) T (K + 1) := fun l l0 l1 => by
      by_cases e : l = j
      · rw [e, ← j5, ← j6]; unfold Lx; omega
      · have w := h.2.2.1 l j l0 (by omega) j4
        rw [← j5, ← j6] at w
        unfold Lx at w ⊢
        omega
    rcases sk_row h s with ⟨b, b0, b1, b2, b3, b4, b5⟩ | ⟨k1, k2⟩
    · have e : b = j + 1 := by
        rcases Int.lt_trichotomy b (j + 1) with z | z | z
        · exact absurd (me b b0 (by omega)) b5
        · exact z
        · exact absurd (b4 (j + 1) (by omega) z) (up (j + 1) (by omega) (by omega))
      subst e
      refine ⟨j + 1, by omega, by omega, by omega, sum, Or.inl ⟨b1, b2, b3, ?_⟩⟩
      have w := h.2.2.1 j (j + 1) j0 (by omega) b1
      rw [← j5, ← b2] at w
      unfold Lx at w
      omega
    · have e : j + 1 = n := by
        rcases Int.lt_or_le (j + 1) n with z | z
        · exact absurd (k2 (j + 1) (by omega) z) (up (j + 1) (by omega) z)
        · omega
      exact ⟨j + 1, by omega, by omega, by omega, sum, Or.inr ⟨e, k1⟩⟩
  · exact absurd j5 hK
theorem CMI.out {P : Int → Int → Prop} {tm ks : Int → Int} {n u v T K i c : Int} {F : Int → Int} (h : LL P tm ks n) (n1 : n ≤ 36525) (pk : ∀ t k : Int, P t k → 0 ≤ k) (q : CMI P tm ks n u v F T K i c) (hs : 36524 < i ∨ K = -1 ∨ v < T) : c = CMs tm n u v F := by
  obtain ⟨j, j0, j1, j2, j3, j4⟩ := q
  rcases j4 with ⟨j4, j5, j6, j7⟩ | ⟨j4, j5⟩
  · have k0 := pk _ _ (h.2.1 j j0 j4)
    rw [j3]
    unfold CMs
    refine (sm_more (by omega) (fun l l0 l1 => if_neg (fun z => ?_))).symm
    by_cases e : l = j
    · rw [e, ← j5] at z; omega
    · have w := h.2.2.1 j l j0 (by omega) (by omega)
      rw [← j5] at w
      unfold Lx at w
      omega
  · rw [j3, j4]
/-- both sums of the class together are the twos that the reference counts -/
theorem cm_both {A B : Int → Int} {na nb la lb u v : Int} (a0 : 0 ≤ na) (b0 : 0 ≤ nb) (l1 : 1 ≤ la) (l2 : 1 ≤ lb) : CMs A na u v (fun t => cn (fun j => t - lb + 1 ≤ B j ∧ B j ≤ t - 0) 0 nb) + CMs B nb u v (fun t => cn (fun i => t - la + 1 ≤ A i ∧ A i ≤ t - 1) 0 na) = sm (fun i => cn (fun j => A i < B j + lb ∧ B j < A i + la ∧ u ≤ max (A i) (B j) ∧ max (A i) (B j) ≤ v) 0 nb) na.toNat := by
  obtain ⟨x, rfl⟩ := Int.eq_ofNat_of_zero_le a0
  obtain ⟨y, rfl⟩ := Int.eq_ofNat_of_zero_le b0
  have e1 : CMs A x u v (fun t => cn (fun j => t - lb + 1 ≤ B j ∧ B j ≤ t - 0) 0 y) = sm (fun i => cn (fun j => u ≤ A i ∧ A i ≤ v ∧ A i - lb + 1 ≤ B j ∧ B j ≤ A i) 0 y) x := by
    unfold CMs
    rw [show ((x : Int)).toNat = x by omega]
    refine sm_cg x (fun i _ _ => ?_)
    by_cases c : u ≤ A i ∧ A i ≤ v
    · rw [if_pos c]
      exact cn_cg (fun j _ _ => by constructor <;> intro z <;> omega)
    · rw [if_neg c]
      exact (cn_none (fun j _ _ z => c ⟨z.1, z.2.1⟩)).symm
  have e2 : CMs B y u v (fun t => cn (fun i => t - la + 1 ≤ A i ∧ A i ≤ t - 1) 0 x) = sm (fun i => cn (fun j => u ≤ B j ∧ B j ≤ v ∧ B j - la + 1 ≤ A i ∧ A i ≤ B j - 1) 0 y) x := by
    rw [sm_swap (q := fun i j => u ≤ B j ∧ B j ≤ v ∧ B j - la + 1 ≤ A i ∧ A i ≤ B j - 1) (m := y) x]
    unfold CMs
    rw [show ((y : Int)).toNat = y by omega]
    refine sm_cg y (fun j _ _ => ?_)
    by_cases c : u ≤ B j ∧ B j ≤ v
    · rw [if_pos c]
      exact cn_cg (fun i _ _ => by constructor <;> intro z <;> omega)
    · rw [if_neg c]
      exact (cn_none (fun i _ _ z => c ⟨z.1, z.2.1⟩)).symm
  rw [e1, e2, ← sm_add, show ((x : Int)).toNat = x by omega]
  refine sm_cg x (fun i _ _ => ?_)
  exact (cn_split (fun j _ _ => by constructor <;> intro z <;> omega) (fun j _ _ z => by omega)).symm
/-! ===== clashes: how many, of both sides ===== -/
theorem LL.mono {P : Int → Int → Prop} {tm ks : Int → Int} {n i j : Int} (h : LL P tm ks n) (i0 : 0 ≤ i) (ij : i ≤ j) (j1 : j < n) : tm i ≤ tm j := by
  by_cases q : i = j
  · rw [q]; exact Int.le_refl _
  · have z := h.2.2.1 i j i0 (by omega) j1
    unfold Lx at z
    omega
def CMA (P : Int → Int → Prop) (u v : Int) (F : Int → Int) (T K i c : Int) : Prop := ∀ (tm ks : Int → Int) (n : Int), LL P tm ks n → n ≤ 36525 → CMI P tm ks n u v F T K i c
def CMR (P : Int → Int → Prop) (u v : Int) (F : Int → Int) (r : Int) : Prop := ∀ (tm ks : Int → Int) (n : Int), LL P tm ks n → n ≤ 36525 → r = CMs tm n u v F
theorem CMA.start {P : Int → Int → Prop} {u v T K i c : Int} {F : Int → Int} (s : Sk P u 0 T K) (pk : ∀ t k : Int, P t k → 0 ≤ k) (hi : i = 0) (hc : c = 0) : CMA P u v F T K i c := fun _ _ _ h _ => CMI.start h s pk hi hc
theorem CMA.step {P : Int → Int → Prop} {u v T K T' K' i i' c c' k w : Int} {F : Int → Int} (q : CMA P u v F T K i c) (hK : K ≠ -1) (le : T ≤ v) (s : Sk P T k T' K') (ek : k = K + 1) (ew : w = F T) (ec : c' = c + w) (ei : i' = i + 1) : CMA P u v F T' K' i' c' := fun tm ks n h n1 => CMI.step h (q tm ks n h n1) hK le s ek (by rw [ec, ew]) ei
theorem CMA.out {P : Int → Int → Prop} {u v T K i c : Int} {F : Int → Int} (q : CMA P u v F T K i c) (pk : ∀ t k : Int, P t k → 0 ≤ k) (hs : 36524 < i ∨ K = -1 ∨ v < T) : CMR P u v F c := fun tm ks n h n1 => CMI.out h n1 pk (q tm ks n h n1) hs
theorem nb_b {g : Int → Int} {p u v : Int} {O : Int → Int} : 0 ≤ NB g p O u v ∧ NB g p O u v ≤ 36525 := by
  unfold NB
  have h := fun q : Int → Prop => cn_pos (p := q) (a := 0) (b := 36525)
  refine ⟨(h _).1, ?_⟩
  have z := (h (fun d => ∃ t : Int, Oc g p O t d ∧ u ≤ t ∧ t ≤ v)).2
  omega
/-- both rows' twos -/
def Cxx (A B : Int → Int) (la lb u v i j : Int) : Prop := A i < B j + lb ∧ B j < A i + la ∧ u ≤ max (A i) (B j) ∧ max (A i) (B j) ≤ v
noncomputable def Sx (A B : Int → Int) (la lb u v nb i : Int) : Int := sm (fun i => cn (fun j => Cxx A B la lb u v i j) 0 nb) i.toNat
theorem Sx_0 {A B : Int → Int} {la lb u v nb i c : Int} (h : i = 0) (hc : c = 0) : c = Sx A B la lb u v nb i := by
  subst h
  subst hc
  rfl
theorem Sx_s {A B : Int → Int} {la lb u v nb i : Int} (h : 0 ≤ i) : Sx A B la lb u v nb (i + 1) = Sx A B la lb u v nb i + cn (fun j => Cxx A B la lb u v i j) 0 nb := by
  unfold Sx
  rw [show (i + 1).toNat = i.toNat + 1 by omega]
  show sm _ i.toNat + cn (fun j => Cxx A B la lb u v ((i.toNat : Nat) : Int) j) 0 nb = _
  rw [show ((i.toNat : Nat) : Int) = i by omega]
theorem sm_b {F : Int → Int} {b : Int} (h : ∀ i : Int, 0 ≤ F i ∧ F i ≤ b) (n : Nat) : 0 ≤ sm F n ∧ sm F n ≤ b * n := by
  induction n with
  | zero => exact ⟨Int.le_refl 0, by show (0 : Int) ≤ b * 0; omega⟩
  | succ n ih =>
    have z := h (n : Int)
    have e : b * ((n + 1 : Nat) : Int) = b * (n : Int) + b := by rw [show ((n + 1 : Nat) : Int) = (n : Int) + 1 by omega, Int.mul_add, Int.mul_one]
    show 0 ≤ sm F n + F (n : Int) ∧ sm F n + F (n : Int) ≤ _
    rw [e]
    omega
theorem Sx_b {A B : Int → Int} {la lb u v nb i : Int} (h : nb ≤ 36525) (i0 : 0 ≤ i) : 0 ≤ Sx A B la lb u v nb i ∧ Sx A B la lb u v nb i ≤ 36525 * i := by
  have z := sm_b (F := fun i => cn (fun j => Cxx A B la lb u v i j) 0 nb) (b := 36525) (fun i => by
    have w := cn_pos (p := fun j => Cxx A B la lb u v i j) (a := 0) (b := nb)
    show 0 ≤ cn (fun j => Cxx A B la lb u v i j) 0 nb ∧ cn (fun j => Cxx A B la lb u v i j) 0 nb ≤ 36525
    omega) i.toNat
  unfold Sx
  rw [show ((i.toNat : Nat) : Int) = i by omega] at z
  exact z
theorem CMs_cg {tm F G : Int → Int} {n u v : Int} (h : ∀ t : Int, F t = G t) : CMs tm n u v F = CMs tm n u v G := by rw [show F = G from funext h]
/-- the class's sums together -/
theorem cl_both {g : Int → Int} {p q : Int} {O O' tm ks tm' ks' : Int → Int} {n n' la lb u v r r' s : Int} (h : CMR (Oc g p O) u v (fun t => NB g q O' (t - lb + 1) (t - 0)) r) (h' : CMR (Oc g q O') u v (fun t => NB g p O (t - la + 1) (t - 1)) r') (kr : ∀ t k : Int, Oc g p O t k → 0 ≤ k ∧ k ≤ 36524) (kr' : ∀ t k : Int, Oc g q O' t k → 0 ≤ k ∧ k ≤ 36524) (l1 : 1 ≤ la) (l2 : 1 ≤ lb) (ll : LL (Oc g p O) tm ks n) (n1 : n ≤ 36525) (ll' : LL (Oc g q O') tm' ks' n') (n2 : n' ≤ 36525) (es : s = r + r') : s = Sx tm tm' la lb u v n' n := by
  have a := h tm ks n ll n1
  have b := h' tm' ks' n' ll' n2
  rw [CMs_cg (F := fun t => NB g q O' (t - lb + 1) (t - 0)) (G := fun t => cn (fun j => t - lb + 1 ≤ tm' j ∧ tm' j ≤ t - 0) 0 n') (fun t => (ll'.nb kr').symm)] at a
  rw [CMs_cg (F := fun t => NB g p O (t - la + 1) (t - 1)) (G := fun t => cn (fun i => t - la + 1 ≤ tm i ∧ tm i ≤ t - 1) 0 n) (fun t => (ll.nb kr).symm)] at b
  have c := cm_both (A := tm) (B := tm') (na := n) (nb := n') (la := la) (lb := lb) (u := u) (v := v) ll.1 ll'.1 l1 l2
  rw [es, a, b]
  exact c
def CLA (P Q : Int → Int → Prop) (la lb u v r : Int) : Prop := ∀ (tm ks : Int → Int) (n : Int) (tm' ks' : Int → Int) (n' : Int), LL P tm ks n → n ≤ 36525 → LL Q tm' ks' n' → n' ≤ 36525 → r = Sx tm tm' la lb u v n' n
def CLE (P Q : Int → Int → Prop) (la lb u v r : Int) : Prop := ∃ (tm ks : Int → Int) (n : Int) (tm' ks' : Int → Int) (n' : Int), LL P tm ks n ∧ n ≤ 36525 ∧ LL Q tm' ks' n' ∧ n' ≤ 36525 ∧ r = Sx tm tm' la lb u v n' n
theorem CLA.b {g : Int → Int} {p q : Int} {O O' : Int → Int} {la lb u v r : Int} (h : CLA (Oc g p O) (Oc g q O') la lb u v r) (kr : ∀ t k : Int, Oc g p O t k → 0 ≤ k ∧ k ≤ 36524) (kr' : ∀ t k : Int, Oc g q O' t k → 0 ≤ k ∧ k ≤ 36524) : 0 ≤ r ∧ r ≤ 1334075625 := by
  obtain ⟨tm, ks, n, l1, n1⟩ := LL.ex kr
  obtain ⟨tm', ks', n', l2, n2⟩ := LL.ex kr'
  have e := h tm ks n tm' ks' n' l1 n1 l2 n2
  have b := Sx_b (A := tm) (B := tm') (la := la) (lb := lb) (u := u) (v := v) n2 l1.1
  omega
/-! the reference's pointer into the other row -/
def FI (A B : Int → Int) (lb na f i : Int) : Prop := 0 ≤ f ∧ ∀ l : Int, 0 ≤ l → l < f → ∀ a : Int, i ≤ a → a < na → B l + lb ≤ A a
theorem FI.start {A B : Int → Int} {lb na f i : Int} (e : f = 0) : FI A B lb na f i := ⟨by omega, fun l l0 l1 => by omega⟩
theorem FI.step {A B : Int → Int} {lb na f f' i : Int} (h : FI A B lb na f i) (up : ∀ a : Int, i ≤ a → a < na → A i ≤ A a) (le : B f + lb ≤ A i) (ef : f' = f + 1) : FI A B lb na f' i := by
  subst ef
  refine ⟨by have := h.1; omega, fun l l0 l1 a a0 a1 => ?_⟩
  by_cases q : l = f
  · rw [q]; have := up a a0 a1; omega
  · exact h.2 l l0 (by omega) a a0 a1
theorem FI.to {A B : Int → Int} {lb na f i i' : Int} (h : FI A B lb na f i) (e : i ≤ i') : FI A B lb na f i' := ⟨h.1, fun l l0 l1 a a0 a1 => h.2 l l0 l1 a (by omega) a1⟩
theorem FI.go {A B : Int → Int} {la lb u v na f i c s : Int} (h : FI A B lb na f i) (i1 : i < na) (e : c = s) : c = s + cn (fun j => Cxx A B la lb u v i j) 0 f := by
  rw [cn_none (p := fun j => Cxx A B la lb u v i j) (a := 0) (b := f) (fun l l0 l1 z => by
    have w := h.2 l l0 l1 i (Int.le_refl i) i1
    have z1 := z.1
    omega)]
  omega
theorem cx_yes {A B : Int → Int} {la lb u v i j j' c c' s : Int} (h : c = s + cn (fun j => Cxx A B la lb u v i j) 0 j) (j0 : 0 ≤ j) (z : Cxx A B la lb u v i j) (ej : j' = j + 1) (ec : c' = c + 1) : c' = s + cn (fun j => Cxx A B la lb u v i j) 0 j' := by
  subst ej
  rw [cn_yes (p := fun j => Cxx A B la lb u v i j) j0 z]
  omega
theorem cx_no {A B : Int → Int} {la lb u v i j j' c s : Int} (h : c = s + cn (fun j => Cxx A B la lb u v i j) 0 j) (j0 : 0 ≤ j) (z : ¬ Cxx A B la lb u v i j) (ej : j' = j + 1) : c = s + cn (fun j => Cxx A B la lb u v i j) 0 j' := by
  subst ej
  rw [cn_no (p := fun j => Cxx A B la lb u v i j) j0 z]
  exact h
theorem cx_out {A B : Int → Int} {la lb u v i i' j nb c : Int} (h : c = Sx A B la lb u v nb i + cn (fun j => Cxx A B la lb u v i j) 0 j) (i0 : 0 ≤ i) (j0 : 0 ≤ j) (j1 : j ≤ nb) (up : ∀ l : Int, j ≤ l → l < nb → B j ≤ B l) (out : nb ≤ j ∨ A i + la ≤ B j) (ei : i' = i + 1) : c = Sx A B la lb u v nb i' := by
  subst ei
  rw [Sx_s i0, cn_add (p := fun j => Cxx A B la lb u v i j) (a := 0) (b := j) (c := nb) j0 j1, cn_none (p := fun j => Cxx A B la lb u v i j) (a := j) (b := nb) (fun l l0 l1 z => by
    have w := up l l0 l1
    have z2 := z.2.1
    omega)]
  omega
theorem Sx_to {A B : Int → Int} {la lb u v nb i i' c : Int} (h : c = Sx A B la lb u v nb i) (e : i' = i) : c = Sx A B la lb u v nb i' := by rw [e]; exact h
theorem clashes_eq {g : Int → Int} {Os : Int → Int → Int} {m a a' b b' c c' d d' r r' : Int} (h : (r = -1 ∧ ¬ ((0 ≤ a ∧ a < m ∧ 0 ≤ b ∧ b < m ∧ a ≠ b) ∧ (0 ≤ c ∧ c ≤ d ∧ d ≤ 36524 ∧ d - c < 400))) ∨ (((0 ≤ a ∧ a < m ∧ 0 ≤ b ∧ b < m ∧ a ≠ b) ∧ (0 ≤ c ∧ c ≤ d ∧ d ≤ 36524 ∧ d - c < 400)) ∧ CLA (Oc g (44 * a) (Os a)) (Oc g (44 * b) (Os b)) (g (44 * a + 2)) (g (44 * b + 2)) (1440 * c) (1440 * d + 1439) r)) (q : (r' = -1 ∧ ¬ ((0 ≤ a' ∧ a' < m ∧ 0 ≤ b' ∧ b' < m ∧ a' ≠ b') ∧ (0 ≤ c' ∧ c' ≤ d' ∧ d' ≤ 36524 ∧ d' - c' < 400))) ∨ (((0 ≤ a' ∧ a' < m ∧ 0 ≤ b' ∧ b' < m ∧ a' ≠ b') ∧ (0 ≤ c' ∧ c' ≤ d' ∧ d' ≤ 36524 ∧ d' - c' < 400)) ∧ CLE (Oc g (44 * a') (Os a')) (Oc g (44 * b') (Os b')) (g (44 * a' + 2)) (g (44 * b' + 2)) (1440 * c') (1440 * d' + 1439) r')) (e1 : a = a') (e2 : b = b') (e3 : c = c') (e4 : d = d') : r = r' := by
  subst e1
  subst e2
  subst e3
  subst e4
  rcases h with ⟨h1, h2⟩ | ⟨h1, h2⟩ <;> rcases q with ⟨q1, q2⟩ | ⟨q1, q2⟩
  · omega
  · exact absurd q1 h2
  · exact absurd h1 q2
  · obtain ⟨tm, ks, n, tm', ks', n', l1, n1, l2, n2, e⟩ := q2
    exact (h2 tm ks n tm' ks' n' l1 n1 l2 n2).trans e.symm
theorem cla_of {g : Int → Int} {p q : Int} {O O' : Int → Int} {la lb u v r r' : Int} (h : CMR (Oc g p O) u v (fun t => NB g q O' (t - lb + 1) (t - 0)) r) (h' : CMR (Oc g q O') u v (fun t => NB g p O (t - la + 1) (t - 1)) r') (kr : ∀ t k : Int, Oc g p O t k → 0 ≤ k ∧ k ≤ 36524) (kr' : ∀ t k : Int, Oc g q O' t k → 0 ≤ k ∧ k ≤ 36524) (l1 : 1 ≤ la) (l2 : 1 ≤ lb) : CLA (Oc g p O) (Oc g q O') la lb u v (r + r') := fun _ _ _ _ _ _ ll n1 ll' n2 => cl_both h h' kr kr' l1 l2 ll n1 ll' n2 rfl
theorem CLA.to {P Q : Int → Int → Prop} {la lb u u' v v' r r' : Int} (h : CLA P Q la lb u v r) (er : r' = r) (eu : u' = u) (ev : v' = v) : CLA P Q la lb u' v' r' := by rw [er, eu, ev]; exact h
theorem Cxx.mk {A B : Int → Int} {la lb u v i j a b : Int} (ea : A i = a) (eb : B j = b) (h : a < b + lb ∧ b < a + la ∧ u ≤ max a b ∧ max a b ≤ v) : Cxx A B la lb u v i j := by
  unfold Cxx
  rw [ea, eb]
  exact h
theorem Cxx.no {A B : Int → Int} {la lb u v i j a b : Int} (ea : A i = a) (eb : B j = b) (h : ¬ (a < b + lb ∧ b < a + la ∧ u ≤ max a b ∧ max a b ≤ v)) : ¬ Cxx A B la lb u v i j := by
  unfold Cxx
  rw [ea, eb]
  exact h
theorem FI.step2 {A B : Int → Int} {lb na f f' i a b : Int} (h : FI A B lb na f i) (up : ∀ a : Int, i ≤ a → a < na → A i ≤ A a) (ea : A i = a) (eb : B f = b) (le : b + lb ≤ a) (ef : f' = f + 1) : FI A B lb na f' i := h.step up (by rw [ea, eb]; exact le) ef
/-- from the pointer on, all reach it -/
def FX (A B : Int → Int) (lb nb f i : Int) : Prop := ∀ l : Int, f ≤ l → l < nb → A i < B l + lb
theorem FX.none {A B : Int → Int} {lb nb f i : Int} (h : nb ≤ f) : FX A B lb nb f i := fun l l0 l1 => by omega
theorem FX.some {A B : Int → Int} {lb nb f i a b : Int} (up : ∀ l : Int, f ≤ l → l < nb → B f ≤ B l) (ea : A i = a) (eb : B f = b) (h : a < b + lb) : FX A B lb nb f i := fun l l0 l1 => by
  have := up l l0 l1
  omega
theorem FX.at {A B : Int → Int} {lb nb f i l a b : Int} (h : FX A B lb nb f i) (l0 : f ≤ l) (l1 : l < nb) (ea : A i = a) (eb : B l = b) : a < b + lb := by
  have := h l l0 l1
  omega
theorem cx_out2 {A B : Int → Int} {la lb u v i i' j nb c : Int} (h : c = Sx A B la lb u v nb i + cn (fun j => Cxx A B la lb u v i j) 0 j) (i0 : 0 ≤ i) (j0 : 0 ≤ j) (j1 : j ≤ nb) (up : ∀ l : Int, j ≤ l → l < nb → B j ≤ B l) (out : nb ≤ j ∨ ∃ a b : Int, A i = a ∧ B j = b ∧ a + la ≤ b) (ei : i' = i + 1) : c = Sx A B la lb u v nb i' := cx_out h i0 j0 j1 up (out.imp id (fun ⟨a, b, ea, eb, z⟩ => by rw [ea, eb]; exact z)) ei
theorem Cxx_to {A B : Int → Int} {la lb u v i j j' c s : Int} (h : c = s + cn (fun j => Cxx A B la lb u v i j) 0 j) (e : j' = j) : c = s + cn (fun j => Cxx A B la lb u v i j) 0 j' := by rw [e]; exact h
