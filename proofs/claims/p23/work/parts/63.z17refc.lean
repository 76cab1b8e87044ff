/-! ===== a long field's value; the reference's tokens ===== -/
def fL (f : Nat → va_E) (a k : Nat) : Int := match fV f a k with
  | some (.long v) => v.toInt
  | _ => 0
theorem fL_W {f g : Nat → va_E} {a k : Nat} (h : fV g a k = fV f a k) : fL g a k = fL f a k := by unfold fL; rw [h]
theorem fL_pU {f : Nat → va_E} {a b k j : Nat} {v : Value} (h : b ≠ a ∨ j ≠ k) : fL (pU f a k v) b j = fL f b j := fL_W (fV_pU h)
theorem fL_aU {f : Nat → va_E} {a b k n : Nat} {cA : ClassId} {j : Int} {v : Int32} (h : ArI f a cA n) : fL (aU f a j v) b k = fL f b k := fL_W (fV_aU h)
theorem fL_pU_self {f : Nat → va_E} {a k ci : Nat} {x : Int} (h : Ob f a ci) (hk : (sg ci)[k]? = some 1) (rx : rgl x) : fL (pU f a k (.long (lJ x))) a k = x := by
  unfold fL
  rw [fV_pU_self h hk]
  exact lJ_toInt rx
section QLV
variable {p : Program} {l : Launch} {e : Env} {R : Room} {s : State} {m : MethodId} {args : Array Value} {below : List Frame} {meth : Method} {c : Code} {H : Heap} {locs : List Loc} {cells slots : Nat} {Q : State → Prop}
variable {cc : ByteArray} {pc : Nat} {ls : Array Slot} {rest : List Value} {D : va_G} {A : Nat → Prop} {a : Nat} {tys : List (ClassId × FieldType)} {H0 : Heap} {L : List Nat} {f : Nat → va_E}
theorem q_getlv (hx : p.tables.exec = Jvm.exec) (hb : c.code = cc) {own ref C : String} {T : u_T} {N ci index : Nat} {Ts : List Cond} (hts : ∀ w ∈ Ts, w.before args s = true) (hin : ∀ w ∈ u_ws C T N, w ∈ Ts) (hown : s.vm.findClass own = some m.cls) (hK : va_K D vwCl tys s) (hw : Wd D A H0 L f H locs) (ha : a ∈ L) (ho : Ob f a ci) (hc : vwCl[ci]? = some (C, T, N)) (k : Nat) (hk : k < N) (hlink : (Cond.fieldLink own index ref (T k).2.1 (T k).2.2.1).before args s = true) (hsame : ∀ x, s.fieldFound? (T k).1 (T k).2.1 (T k).2.2.1 = some x → s.fieldFound? ref (T k).2.1 (T k).2.2.1 = some x) (hs : (sg ci)[k]? = some 1) (d : decode cc pc = .ok (.getfield index, 3))
    (kk : ∀ z : Int, -9223372036854775808 ≤ z → z ≤ 9223372036854775807 → z = fL f a k → W p l e R s m args below meth c H locs cells slots Q (F0 m (pc + 3) ls (.long (lJ z) :: rest))) : W p l e R s m args below meth c H locs cells slots Q (F0 m pc ls (.ref a :: rest)) := by
  obtain ⟨fs, v, h1, h2, h3, h4⟩ := ho.val hs
  obtain ⟨x, rfl⟩ := tyv_long h4
  obtain ⟨q0, hq⟩ := hw.at ha
  rw [h1] at hq
  refine va_get hx hb hts hin hown hK hw.1 q0 hq hc k hk hlink hsame h3 d ?_
  exact q_numl fun z z1 z2 z3 => kk z z1 z2 (by rw [z3]; unfold fL; rw [fV_eq h1, h3])
end QLV
/-- a word's letters as one number -/
def pkF (T : Int → Int) (p : Int) : Nat → Int
  | 0 => 0
  | k + 1 => 256 * pkF T p k + T (p + k)
def pkW (T : Int → Int) (p q : Int) : Int := if q - p ≤ 7 then pkF T p (q - p).toNat else 0
theorem pkW_0 {T : Int → Int} {p q : Int} (h : q = p) : pkW T p q = 0 := by
  unfold pkW
  rw [if_pos (by omega), show (q - p).toNat = 0 by omega]; rfl
theorem pkW_go {T : Int → Int} {p q q' : Int} (h : p ≤ q) (h7 : q - p < 7) (e : q' = q + 1) : pkW T p q' = 256 * pkW T p q + T q := by
  unfold pkW
  rw [if_pos (by omega), if_pos (by omega), e, show (q + 1 - p).toNat = (q - p).toNat + 1 by omega]
  show 256 * pkF T p (q - p).toNat + T (p + (((q - p).toNat : Nat) : Int)) = _
  rw [show p + (((q - p).toNat : Nat) : Int) = q by omega]
theorem pkW_big {T : Int → Int} {p q : Int} (h : 7 < q - p) : pkW T p q = 0 := by unfold pkW; rw [if_neg (by omega)]
theorem pkF_b {T : Int → Int} {p : Int} (bT : ∀ i : Int, 0 ≤ T i ∧ T i ≤ 255) (k : Nat) : 0 ≤ pkF T p k ∧ pkF T p k < 256 ^ k := by
  induction k with
  | zero => exact ⟨Int.le_refl 0, by show (0 : Int) < 1; decide⟩
  | succ k ih =>
    have b := bT (p + k)
    show 0 ≤ 256 * pkF T p k + T (p + k) ∧ 256 * pkF T p k + T (p + k) < 256 ^ (k + 1)
    rw [Int.pow_succ]
    omega
theorem pkW_b {T : Int → Int} {p q : Int} (bT : ∀ i : Int, 0 ≤ T i ∧ T i ≤ 255) : 0 ≤ pkW T p q ∧ pkW T p q < 72057594037927936 := by
  unfold pkW
  split
  · have a := pkF_b (p := p) bT (q - p).toNat
    have c : (256 : Int) ^ (q - p).toNat ≤ 256 ^ 7 := by
      have : (q - p).toNat ≤ 7 := by omega
      rcases (show (q - p).toNat = 0 ∨ (q - p).toNat = 1 ∨ (q - p).toNat = 2 ∨ (q - p).toNat = 3 ∨ (q - p).toNat = 4 ∨ (q - p).toNat = 5 ∨ (q - p).toNat = 6 ∨ (q - p).toNat = 7 by omega) with h | h | h | h | h | h | h | h <;> rw [h] <;> decide
    have d : (256 : Int) ^ 7 = 72057594037927936 := by decide
    omega
  · omega
/-- letters that are one number are alike -/
theorem pk_inj {T S : Int → Int} {p r : Int} (bT : ∀ i : Int, 0 ≤ T i ∧ T i ≤ 255) (bS : ∀ i : Int, 0 ≤ S i ∧ S i ≤ 255) (k : Nat) : pkF T p k = pkF S r k → ∀ i : Nat, i < k → T (p + i) = S (r + i) := by
  induction k with
  | zero => intro _ i h; omega
  | succ k ih =>
    intro h i hi
    have h : 256 * pkF T p k + T (p + k) = 256 * pkF S r k + S (r + k) := h
    have a := bT (p + k)
    have b := bS (r + k)
    by_cases e : i = k
    · rw [e]; omega
    · exact ih (by omega) i (by omega)
/-! ===== what the reference looks at ===== -/
def SRr (T : Int → Int) (n : Int) (f : Nat → va_E) (a : Nat) (e : Int) : Prop :=
  fI f a 15 = tP T n e ∧ (tyA T n (tP T n e) = 0 → fI f a 17 = 0 ∧ fI f a 16 = tQ T n e) ∧ (tyA T n (tP T n e) = 1 → fI f a 17 = 1 ∧ fI f a 16 = tQ T n e ∧ fL f a 18 = pkW T (tP T n e) (tQ T n e)) ∧
  (tyA T n (tP T n e) = 2 → fI f a 16 = tQ T n e ∧ (tQ T n e - tP T n e ≤ 4 → fI f a 17 = 2 ∧ fI f a 19 = vN T n e) ∧ (4 < tQ T n e - tP T n e → fI f a 17 = 3)) ∧ (tyA T n (tP T n e) = 3 → fI f a 17 = 3)
theorem srr_0 {T : Int → Int} {n e p : Int} {f : Nat → va_E} {a : Nat} (pe : p = tP T n e) (hp : n ≤ p) (h15 : fI f a 15 = p) (h16 : fI f a 16 = p) (h17 : fI f a 17 = 0) : SRr T n f a e := by
  have ty : tyA T n p = 0 := by unfold tyA; rw [if_pos hp]
  have tq : tQ T n e = p := by rw [tQ_r (by rw [← pe, ty]; decide), ← pe, rn_end (Or.inl hp)]
  unfold SRr
  rw [← pe, ty, tq]
  exact ⟨h15, fun _ => ⟨h17, h16⟩, fun h => absurd h (by decide), fun h => absurd h (by decide), fun h => absurd h (by decide)⟩
theorem srr_3 {T : Int → Int} {n e p : Int} {f : Nat → va_E} {a : Nat} (pe : p = tP T n e) (ty : 3 = tyA T n p) (h15 : fI f a 15 = p) (h17 : fI f a 17 = 3) : SRr T n f a e := by
  unfold SRr
  rw [← pe, ← ty]
  exact ⟨h15, fun h => absurd h (by decide), fun h => absurd h (by decide), fun h => absurd h (by decide), fun _ => h17⟩
theorem srr_1 {T : Int → Int} {n e p q : Int} {f : Nat → va_E} {a : Nat} (pe : p = tP T n e) (ty : 1 = tyA T n p) (h15 : fI f a 15 = p) (h16 : fI f a 16 = q) (h17 : fI f a 17 = 1) (rr : rn T n 1 p = rn T n 1 q) (hx : n ≤ q ∨ tyA T n q ≠ 1) (h18 : fL f a 18 = pkW T p q) : SRr T n f a e := by
  have tq : tQ T n e = q := by rw [tQ_r (by rw [← pe, ← ty]; decide), ← pe, ← ty, rr, rn_end hx]
  unfold SRr
  rw [← pe, ← ty, tq]
  exact ⟨h15, fun h => absurd h (by decide), fun _ => ⟨h17, h16, h18⟩, fun h => absurd h (by decide), fun h => absurd h (by decide)⟩
theorem srr_2 {T : Int → Int} {n e p q : Int} {f : Nat → va_E} {a : Nat} (pe : p = tP T n e) (ty : 2 = tyA T n p) (h15 : fI f a 15 = p) (h16 : fI f a 16 = q) (rr : rn T n 2 p = rn T n 2 q) (hx : n ≤ q ∨ tyA T n q ≠ 2) (h17 : (q - p ≤ 4 ∧ fI f a 17 = 2) ∨ (4 < q - p ∧ fI f a 17 = 3)) (h19 : q - p ≤ 4 → fI f a 19 = nv T p q) : SRr T n f a e := by
  have tq : tQ T n e = q := by rw [tQ_r (by rw [← pe, ← ty]; decide), ← pe, ← ty, rr, rn_end hx]
  unfold SRr vN
  rw [← pe, ← ty, tq]
  exact ⟨h15, fun h => absurd h (by decide), fun h => absurd h (by decide), fun _ => ⟨h16, fun z => ⟨by omega, h19 z⟩, fun z => by omega⟩, fun h => absurd h (by decide)⟩
theorem pkW_b6 {T : Int → Int} {p q : Int} (bT : ∀ i : Int, 0 ≤ T i ∧ T i ≤ 255) (h : q - p < 7) : 0 ≤ pkW T p q ∧ pkW T p q < 281474976710656 := by
  unfold pkW
  rw [if_pos (by omega)]
  have a := pkF_b (p := p) bT (q - p).toNat
  have c : (256 : Int) ^ (q - p).toNat ≤ 256 ^ 6 := by
    rcases (show (q - p).toNat = 0 ∨ (q - p).toNat = 1 ∨ (q - p).toNat = 2 ∨ (q - p).toNat = 3 ∨ (q - p).toNat = 4 ∨ (q - p).toNat = 5 ∨ (q - p).toNat = 6 by omega) with h | h | h | h | h | h | h <;> rw [h] <;> decide
  have d : (256 : Int) ^ 6 = 281474976710656 := by decide
  omega
theorem pk_to {T : Int → Int} {p q q' x z : Int} (h : x = z) (e : z = pkW T p q ∧ q' = q) : x = pkW T p q' := by rw [h, e.1, e.2]
theorem nv_st' {T : Int → Int} {p q q' v v' x : Int} (h : v = nv T p q) (pq : p ≤ q) (e : q' = q + 1) (ev : x = T q ∧ v' = 10 * v + x - 48) : v' = nv T p q' := by rw [nv_go pq e, ← h, ← ev.1]; exact ev.2
/-! ===== the reference's bytes, numbers, words ===== -/
def BYT (T : Int → Int) (n k c : Int) : Prop := (n ≤ k ∧ c = -1) ∨ (k < n ∧ c = T k)
theorem byt_sp {T : Int → Int} {n k c : Int} (h : BYT T n k c) (e : c = 32) : k < n ∧ T k = 32 := by
  rcases h with h | h
  · omega
  · exact ⟨h.1, h.2.symm.trans e⟩
theorem byt_ns {T : Int → Int} {n k c : Int} (h : BYT T n k c) (e : c ≠ 32) : n ≤ k ∨ T k ≠ 32 := by
  rcases h with h | h
  · exact Or.inl h.1
  · exact Or.inr (fun z => e (h.2.trans z))
theorem byt_0 {T : Int → Int} {n k c : Int} (h : BYT T n k c) (bT : ∀ i : Int, 0 ≤ T i ∧ T i ≤ 255) (e : c = -1) : n ≤ k := by
  rcases h with h | h
  · exact h.1
  · have := bT k; omega
theorem byt_1 {T : Int → Int} {n k k' c : Int} (h : BYT T n k c) (e : 97 ≤ c ∧ c ≤ 122) (q : k' = k) : 1 = tyA T n k' ∧ k' < n ∧ c = T k' := by
  subst q
  rcases h with h | h
  · omega
  · exact ⟨tyA_of (Or.inr (Or.inl ⟨h.1, by omega, by omega, rfl⟩)), h.1, h.2⟩
theorem byt_2 {T : Int → Int} {n k k' c : Int} (h : BYT T n k c) (e : 48 ≤ c ∧ c ≤ 57) (q : k' = k) : 2 = tyA T n k' ∧ k' < n ∧ c = T k' := by
  subst q
  rcases h with h | h
  · omega
  · exact ⟨tyA_of (Or.inr (Or.inr (Or.inl ⟨h.1, by omega, by omega, by omega, rfl⟩))), h.1, h.2⟩
theorem byt_3 {T : Int → Int} {n k c : Int} (h : BYT T n k c) (e : c ≠ -1 ∧ (c < 97 ∨ 122 < c) ∧ (c < 48 ∨ 57 < c)) : 3 = tyA T n k ∧ k < n := by
  rcases h with h | h
  · omega
  · exact ⟨tyA_of (Or.inr (Or.inr (Or.inr ⟨h.1, by omega, by omega, rfl⟩))), h.1⟩
theorem byt_n1 {T : Int → Int} {n k k' c : Int} (h : BYT T n k c) (e : c < 97 ∨ 122 < c) (q : k' = k) : n ≤ k' ∨ tyA T n k' ≠ 1 := by
  subst q
  rcases h with h | h
  · exact Or.inl h.1
  · exact Or.inr (fun z => by have := tyA_1 z; omega)
theorem byt_n2 {T : Int → Int} {n k k' c : Int} (h : BYT T n k c) (e : c < 48 ∨ 57 < c) (q : k' = k) : n ≤ k' ∨ tyA T n k' ≠ 2 := by
  subst q
  rcases h with h | h
  · exact Or.inl h.1
  · exact Or.inr (fun z => by have := tyA_2 z; omega)
theorem byt_v {T : Int → Int} {n k k' c : Int} (h : BYT T n k c) (q : k' = k) (l : k' < n) : c = T k' := by
  subst q
  rcases h with h | h
  · omega
  · exact h.2
/-- the number so far, up to four digits -/
def NVd (T : Int → Int) (p q v : Int) : Prop := q - p ≤ 4 → v = nv T p q ∧ DG v (q - p)
theorem nvd_0 {T : Int → Int} {p q v : Int} (h : q = p ∧ v = 0) : NVd T p q v := fun _ => ⟨by rw [h.2, nv_0 (by omega)], by rw [h.2]; unfold DG; omega⟩
theorem nvd_big {T : Int → Int} {p q v : Int} (h : 4 < q - p) : NVd T p q v := fun z => absurd z (by omega)
theorem nvd_st {T : Int → Int} {p q q' v v' x : Int} (h : NVd T p q v) (pq : p ≤ q) (l : q - p < 4) (hx : x = T q) (b : 48 ≤ T q ∧ T q ≤ 57) (e : q' = q + 1) (ev : v' = 10 * v + x - 48) : NVd T p q' v' := fun _ => by
  obtain ⟨a, d⟩ := h (by omega)
  refine ⟨nv_st a pq hx e ev, ?_⟩
  clear a
  unfold DG at *
  refine ⟨by omega, by omega, by omega, by omega, by omega, by omega⟩
theorem nvd_r {T : Int → Int} {p q v : Int} (h : NVd T p q v) (pq : p ≤ q) (l : q - p < 4) : 0 ≤ v ∧ v ≤ 999 := by
  obtain ⟨a, d⟩ := h (by omega)
  clear a
  unfold DG at d
  omega
theorem nvd_to {T : Int → Int} {p q q' v v' : Int} (h : NVd T p q v) (e : q' = q ∧ v' = v) : NVd T p q' v' := by rw [e.1, e.2]; exact h
theorem nvd_v {T : Int → Int} {p q v : Int} (h : NVd T p q v) : q - p ≤ 4 → v = nv T p q := fun z => (h z).1
theorem sm_y {r c : Int} (h : r = 1 ∧ 97 ≤ c ∧ c ≤ 122 ∨ r = 0 ∧ (c < 97 ∨ 122 < c)) (e : r ≠ 0) : 97 ≤ c ∧ c ≤ 122 := by omega
theorem sm_n {r c : Int} (h : r = 1 ∧ 97 ≤ c ∧ c ≤ 122 ∨ r = 0 ∧ (c < 97 ∨ 122 < c)) (e : r = 0) : c < 97 ∨ 122 < c := by omega
theorem dg_y {r c : Int} (h : r = 1 ∧ 48 ≤ c ∧ c ≤ 57 ∨ r = 0 ∧ (c < 48 ∨ 57 < c)) (e : r ≠ 0) : 48 ≤ c ∧ c ≤ 57 := by omega
theorem dg_n {r c : Int} (h : r = 1 ∧ 48 ≤ c ∧ c ≤ 57 ∨ r = 0 ∧ (c < 48 ∨ 57 < c)) (e : r = 0) : c < 48 ∨ 57 < c := by omega
/-- the reference stands at e, with the fault F -/
def PSr (T : Int → Int) (n : Int) (f : Nat → va_E) (a : Nat) (F e : Int) : Prop := fI f a 20 = F ∧ 0 ≤ F ∧ 0 ≤ fI f a 15 ∧ fI f a 15 ≤ 160 ∧ 0 ≤ fI f a 16 ∧ fI f a 16 ≤ n ∧ (F = 0 → SRr T n f a e)
def sq (F x : Int) : Int := if F = 0 then x else F
theorem sq_0 {F x : Int} (h : F = 0) : sq F x = x := if_pos h
theorem sq_1 {F x : Int} (h : F ≠ 0) : sq F x = F := if_neg h
theorem sq_b {F x : Int} (h : 0 ≤ F) (g : 0 ≤ x) : 0 ≤ sq F x := by unfold sq; split <;> omega
theorem sq_z {F x : Int} : sq F x = 0 ↔ F = 0 ∧ x = 0 := by
  unfold sq
  split
  · exact ⟨fun h => ⟨by assumption, h⟩, fun h => h.2⟩
  · exact ⟨fun h => absurd h (by assumption), fun h => absurd h.1 (by assumption)⟩
/-! ===== words as numbers; where the reference stands ===== -/
def bS (b : List Int32) (i : Int) : Int := (b.getD i.toNat 0).toInt
def WOK (b : List Int32) : Prop := b.length ≤ 7 ∧ 1 ≤ b.length ∧ ∀ i : Nat, i < b.length → 97 ≤ (b.getD i 0).toInt ∧ (b.getD i 0).toInt ≤ 122
theorem bS_b {b : List Int32} (h : WOK b) (i : Int) : 0 ≤ bS b i ∧ bS b i ≤ 255 := by
  unfold bS
  by_cases c : i.toNat < b.length
  · have := h.2.2 _ c; omega
  · rw [List.getD_eq_getElem?_getD, List.getElem?_eq_none (by omega)]; decide
theorem pkF_congr {T S : Int → Int} {p r : Int} (k : Nat) : (∀ i : Nat, i < k → T (p + i) = S (r + i)) → pkF T p k = pkF S r k := by
  induction k with
  | zero => intro _; rfl
  | succ k ih =>
    intro h
    show 256 * pkF T p k + T (p + k) = 256 * pkF S r k + S (r + k)
    rw [ih (fun i hi => h i (by omega)), h k (by omega)]
theorem pkF_nn {T : Int → Int} {p : Int} (k : Nat) : (∀ i : Nat, i < k → 1 ≤ T (p + i) ∧ T (p + i) ≤ 255) → 0 ≤ pkF T p k := by
  induction k with
  | zero => intro _; exact Int.le_refl 0
  | succ k ih =>
    intro h
    have a := ih (fun i hi => h i (by omega))
    have b := h k (by omega)
    show 0 ≤ 256 * pkF T p k + T (p + k)
    omega
theorem pkq_eq {T S : Int → Int} {p r : Int} (k : Nat) : ∀ j : Nat, (∀ i : Nat, i < k → 1 ≤ T (p + i) ∧ T (p + i) ≤ 255) → (∀ i : Nat, i < j → 1 ≤ S (r + i) ∧ S (r + i) ≤ 255) → pkF T p k = pkF S r j → k = j ∧ ∀ i : Nat, i < k → T (p + i) = S (r + i) := by
  induction k with
  | zero =>
    intro j _ hS e
    cases j with
    | zero => exact ⟨rfl, fun i h => by omega⟩
    | succ j =>
      have e : 0 = 256 * pkF S r j + S (r + j) := e
      have a := pkF_nn j (fun i hi => hS i (by omega))
      have b := hS j (by omega)
      omega
  | succ k ih =>
    intro j hT hS e
    cases j with
    | zero =>
      have e : 256 * pkF T p k + T (p + k) = 0 := e
      have a := pkF_nn k (fun i hi => hT i (by omega))
      have b := hT k (by omega)
      omega
    | succ j =>
      have e : 256 * pkF T p k + T (p + k) = 256 * pkF S r j + S (r + j) := e
      have b := hT k (by omega)
      have d := hS j (by omega)
      obtain ⟨g1, g2⟩ := ih j (fun i hi => hT i (by omega)) (fun i hi => hS i (by omega)) (by omega)
      refine ⟨by omega, fun i hi => ?_⟩
      by_cases c : i = k
      · rw [c]; subst g1; omega
      · exact g2 i (by omega)
def pkS (b : List Int32) (k : Nat) : Int := pkF (bS b) 0 k
theorem pkS_0 (b : List Int32) : pkS b 0 = 0 := rfl
theorem pkS_st {b : List Int32} {k k' : Int} (h : 0 ≤ k) (e : k' = k + 1) : pkS b k'.toNat = 256 * pkS b k.toNat + bS b k := by
  rw [e, show (k + 1).toNat = k.toNat + 1 by omega]
  show 256 * pkF (bS b) 0 k.toNat + bS b (0 + ((k.toNat : Nat) : Int)) = _
  rw [show 0 + ((k.toNat : Nat) : Int) = k by omega]; rfl
theorem pkS_b {b : List Int32} (h : WOK b) {k : Int} (h0 : 0 ≤ k) (h1 : k < (b.length : Int)) : 0 ≤ pkS b k.toNat ∧ pkS b k.toNat < 281474976710656 := by
  have l := h.1
  have a := pkF_b (T := bS b) (p := 0) (bS_b h) k.toNat
  have c : (256 : Int) ^ k.toNat ≤ 256 ^ 6 := by
    rcases (show k.toNat = 0 ∨ k.toNat = 1 ∨ k.toNat = 2 ∨ k.toNat = 3 ∨ k.toNat = 4 ∨ k.toNat = 5 ∨ k.toNat = 6 by omega) with h | h | h | h | h | h | h <;> rw [h] <;> decide
  have d : (256 : Int) ^ 6 = 281474976710656 := by decide
  unfold pkS
  omega
/-- a word is told just where its number is -/
theorem pk_w {T : Int → Int} {n e : Int} {b : List Int32} (wok : WOK b) (e1 : e ≤ n) (ty : tyA T n (tP T n e) = 1) : pkW T (tP T n e) (tQ T n e) = pkS b b.length ↔ isW T n e b := by
  have pb := tP_b (T := T) e1
  have qb := tQ_b (T := T) e1
  have hT : ∀ i : Int, tP T n e ≤ i → i < tQ T n e → 97 ≤ T i ∧ T i ≤ 122 := fun i h0 h1 => (tyA_1 ((tQ_all e1 i h0 h1).trans ty)).2
  have hS : ∀ i : Nat, i < b.length → 1 ≤ bS b (0 + i) ∧ bS b (0 + i) ≤ 255 := fun i hi => by
    have := wok.2.2 i hi
    unfold bS
    rw [show (0 + (i : Int)).toNat = i by omega]; omega
  constructor
  · intro h
    unfold pkW at h
    split at h
    · obtain ⟨g1, g2⟩ := pkq_eq _ _ (fun i hi => by have := hT (tP T n e + i) (by omega) (by omega); omega) hS h
      refine ⟨ty, by omega, fun i i0 i1 => ?_⟩
      have := g2 i.toNat (by omega)
      rw [show ((i.toNat : Nat) : Int) = i by omega] at this
      rw [this]
      unfold bS
      rw [show (0 + i) = i by omega]
    · exfalso
      have a := pkF_nn (T := bS b) (p := 0) (b.length - 1) (fun i hi => hS i (by omega))
      have z := hS (b.length - 1) (by have := wok.2.1; omega)
      have q : pkS b b.length = 256 * pkF (bS b) 0 (b.length - 1) + bS b (0 + ((b.length - 1 : Nat) : Int)) := by
        have w := wok.2.1
        obtain ⟨m, hm⟩ : ∃ m, b.length = m + 1 := ⟨b.length - 1, by omega⟩
        unfold pkS
        rw [hm]; rfl
      omega
  · intro h
    have l := h.2.1
    have w := wok.1
    unfold pkW
    rw [if_pos (by omega), show (tQ T n e - tP T n e).toNat = b.length by omega]
    refine pkF_congr _ (fun i hi => ?_)
    have := h.2.2 (i : Int) (by omega) (by omega)
    rw [this]
    unfold bS
    rw [show (0 + (i : Int)) = i by omega]
/-- what next leaves -/
def NXP (T : Int → Int) (n : Int) (f f1 : Nat → va_E) (a : Nat) : Prop := (0 < fI f a 20 ∧ f1 = f) ∨ (fI f a 20 ≤ 0 ∧ SRr T n f1 a (fI f a 16) ∧ 0 ≤ fI f1 a 16 ∧ fI f1 a 16 ≤ n)
theorem PSr.nxt {T : Int → Int} {n F e : Int} {f f1 : Nat → va_E} {a : Nat} (h : PSr T n f a F e) (v : F = 0 → fI f a 16 = tQ T n e) (p : NXP T n f f1 a) (k : fI f1 a 20 = fI f a 20) (n1 : n ≤ 160) : PSr T n f1 a F (tQ T n e) := by
  obtain ⟨h1, h2, h3, h4, h5, h6, h7⟩ := h
  rcases p with ⟨p1, p2⟩ | ⟨p1, p2, p3, p4⟩
  · rw [p2]; exact ⟨h1, h2, h3, h4, h5, h6, fun z => absurd z (by omega)⟩
  · have z : F = 0 := by omega
    have b := tP_b (T := T) h6
    rw [v z] at p2
    have q := p2.1
    rw [← v z] at q
    exact ⟨k.trans h1, h2, by omega, by omega, p3, p4, fun _ => p2⟩
theorem PSr.wr {T : Int → Int} {n F e x e' : Int} {f f1 : Nat → va_E} {a : Nat} (h : PSr T n f a F e) (hx : 0 < x) (w : fI f1 a 20 = x) (k15 : fI f1 a 15 = fI f a 15) (k16 : fI f1 a 16 = fI f a 16) : PSr T n f1 a x e' := by
  obtain ⟨h1, h2, h3, h4, h5, h6, h7⟩ := h
  exact ⟨w, by omega, by omega, by omega, by omega, by omega, fun z => absurd z (by omega)⟩
theorem PSr.F {T : Int → Int} {n F F' e e' : Int} {f : Nat → va_E} {a : Nat} (h : PSr T n f a F e) (q : F ≠ 0) (z : F' = F) : PSr T n f a F' e' := by
  rw [z]
  exact ⟨h.1, h.2.1, h.2.2.1, h.2.2.2.1, h.2.2.2.2.1, h.2.2.2.2.2.1, fun y => absurd y q⟩
theorem PSr.to {T : Int → Int} {n F F' e e' : Int} {f : Nat → va_E} {a : Nat} (h : PSr T n f a F e) (z : F' = F) (y : e' = e) : PSr T n f a F' e' := by rw [z, y]; exact h
theorem PSr.sr {T : Int → Int} {n F e : Int} {f : Nat → va_E} {a : Nat} (h : PSr T n f a F e) (z : F = 0) : SRr T n f a e := h.2.2.2.2.2.2 z
theorem PSr.pl {T : Int → Int} {n F e : Int} {f : Nat → va_E} {a : Nat} (h : PSr T n f a F e) (z : F = 0) : fI f a 15 = tP T n e := (h.sr z).1
/-- a token by its kind -/
theorem SRr.w {T : Int → Int} {n e : Int} {f : Nat → va_E} {a : Nat} (h : SRr T n f a e) (k : fI f a 17 = 1) : tyA T n (tP T n e) = 1 ∧ fI f a 16 = tQ T n e ∧ fL f a 18 = pkW T (tP T n e) (tQ T n e) := by
  obtain ⟨-, h0, h1, h2, h3⟩ := h
  have b := tyA_b T n (tP T n e)
  rcases (show tyA T n (tP T n e) = 0 ∨ tyA T n (tP T n e) = 1 ∨ tyA T n (tP T n e) = 2 ∨ tyA T n (tP T n e) = 3 by omega) with q | q | q | q
  · have := h0 q; omega
  · exact ⟨q, (h1 q).2⟩
  · have z := h2 q
    rcases Int.lt_or_le 4 (tQ T n e - tP T n e) with y | y
    · have := z.2.2 y; omega
    · have := (z.2.1 y).1; omega
  · have := h3 q; omega
theorem SRr.nw {T : Int → Int} {n e : Int} {f : Nat → va_E} {a : Nat} (h : SRr T n f a e) (k : fI f a 17 ≠ 1) : tyA T n (tP T n e) ≠ 1 := fun q => k (h.2.2.1 q).1
theorem SRr.d {T : Int → Int} {n e : Int} {f : Nat → va_E} {a : Nat} (h : SRr T n f a e) (k : fI f a 17 = 2) : okN T n e ∧ fI f a 16 = tQ T n e ∧ fI f a 19 = vN T n e := by
  obtain ⟨-, h0, h1, h2, h3⟩ := h
  have b := tyA_b T n (tP T n e)
  rcases (show tyA T n (tP T n e) = 0 ∨ tyA T n (tP T n e) = 1 ∨ tyA T n (tP T n e) = 2 ∨ tyA T n (tP T n e) = 3 by omega) with q | q | q | q
  · have := h0 q; omega
  · have := h1 q; omega
  · have z := h2 q
    rcases Int.lt_or_le 4 (tQ T n e - tP T n e) with y | y
    · have := z.2.2 y; omega
    · exact ⟨⟨q, y⟩, z.1, (z.2.1 y).2⟩
  · have := h3 q; omega
theorem SRr.nd {T : Int → Int} {n e : Int} {f : Nat → va_E} {a : Nat} (h : SRr T n f a e) (k : fI f a 17 ≠ 2) : ¬ okN T n e := fun q => k ((h.2.2.2.1 q.1).2.1 q.2).1
theorem SRr.e {T : Int → Int} {n e : Int} {f : Nat → va_E} {a : Nat} (h : SRr T n f a e) : fI f a 17 = 0 ↔ tyA T n (tP T n e) = 0 := by
  obtain ⟨-, h0, h1, h2, h3⟩ := h
  have b := tyA_b T n (tP T n e)
  rcases (show tyA T n (tP T n e) = 0 ∨ tyA T n (tP T n e) = 1 ∨ tyA T n (tP T n e) = 2 ∨ tyA T n (tP T n e) = 3 by omega) with q | q | q | q
  · have := h0 q; omega
  · have := h1 q; omega
  · have z := h2 q
    rcases Int.lt_or_le 4 (tQ T n e - tP T n e) with y | y
    · have := z.2.2 y; omega
    · have := (z.2.1 y).1; omega
  · have := h3 q; omega
/-- a word is asked for -/
theorem iw_y {T : Int → Int} {n e F x y : Int} {f : Nat → va_E} {a : Nat} {b : List Int32} (h : PSr T n f a F e) (z : F = 0) (k : fI f a 17 = 1) (wok : WOK b) (e1 : e ≤ n) (ex : x = fL f a 18) (ey : y = pkS b b.length) (c : x = y) : isW T n e b := by
  have s := (h.sr z).w k
  exact (pk_w wok e1 s.1).mp (by rw [← s.2.2, ← ex, c, ey])
theorem iw_n {T : Int → Int} {n e F x y : Int} {f : Nat → va_E} {a : Nat} {b : List Int32} (h : PSr T n f a F e) (z : F = 0) (k : fI f a 17 = 1) (wok : WOK b) (e1 : e ≤ n) (ex : x = fL f a 18) (ey : y = pkS b b.length) (c : x ≠ y) : ¬ isW T n e b := fun q => by
  have s := (h.sr z).w k
  exact c (by rw [ex, s.2.2, (pk_w wok e1 s.1).mpr q, ey])
theorem iw_t {T : Int → Int} {n e F : Int} {f : Nat → va_E} {a : Nat} {b : List Int32} (h : PSr T n f a F e) (z : F = 0) (k : fI f a 17 ≠ 1) : ¬ isW T n e b := fun q => (h.sr z).nw k q.1
theorem iw_16 {T : Int → Int} {n e F : Int} {f : Nat → va_E} {a : Nat} {b : List Int32} (h : PSr T n f a F e) (z : F = 0) (k : isW T n e b) : fI f a 16 = tQ T n e := ((h.sr z).2.2.1 k.1).2.1
theorem wS_p {T : Int → Int} {n e : Int} {b : List Int32} (e0 : 0 ≤ e) (e1 : e ≤ n) (h : wS T n e b ≠ 0) : wS T n e b = 8 * tP T n e + 1 := (wS_b e0 e1).elim (fun q => absurd q h) (fun q => q.1)
/-- a number is asked for: is it one -/
def okS (T : Int → Int) (n e : Int) : Int := if tyA T n (tP T n e) = 2 ∧ tQ T n e - tP T n e ≤ 4 then 0 else 8 * tP T n e + 1
theorem okS_y {T : Int → Int} {n e : Int} (h : okN T n e) : okS T n e = 0 := if_pos h
theorem okS_n {T : Int → Int} {n e : Int} (h : ¬ okN T n e) : okS T n e = 8 * tP T n e + 1 := if_neg h
theorem okS_z {T : Int → Int} {n e : Int} (e0 : 0 ≤ e) (e1 : e ≤ n) (h : okS T n e = 0) : okN T n e := by
  have := tP_b (T := T) e1
  rcases Classical.em (okN T n e) with c | c
  · exact c
  · rw [okS_n c] at h; omega
theorem okS_b {T : Int → Int} {n e : Int} (e0 : 0 ≤ e) (e1 : e ≤ n) : 0 ≤ okS T n e := by
  have := tP_b (T := T) e1
  unfold okS
  split <;> omega
theorem sq_nS {T : Int → Int} {n e F lo hi : Int} (h : sq F (okS T n e) ≠ 0) : sq F (nS T n e lo hi) = sq F (okS T n e) := by
  by_cases c : F = 0
  · rw [sq_0 c] at h ⊢
    rw [sq_0 c]
    unfold okS at *
    unfold nS
    by_cases k : tyA T n (tP T n e) = 2 ∧ tQ T n e - tP T n e ≤ 4
    · rw [if_pos k] at h; omega
    · rw [if_neg k, if_neg k]
  · rw [sq_1 c, sq_1 c]
def VQ (T : Int → Int) (n : Int) (f : Nat → va_E) (a : Nat) (F e lo hi : Int) : Prop := sq F (nS T n e lo hi) = 0 → fI f a 19 = vN T n e ∧ fI f a 16 = tQ T n e
theorem VQ.no {T : Int → Int} {n : Int} {f : Nat → va_E} {a : Nat} {F e lo hi : Int} (h : sq F (nS T n e lo hi) ≠ 0) : VQ T n f a F e lo hi := fun z => absurd z h
set_option maxHeartbeats 4000000 in
set_option maxRecDepth 100000 in
theorem c_X10_next_p {Z : Zt} (zo : Zok Z) (l : Launch) (D : va_G) (cy : Cy) (L0 : List Nat) (f0 : Nat → va_E) (a0 : Nat) (ad : Nat → Nat) (hs : MS cy L0 f0 a0 ad) (Tt : Int → Int) (nn : Int) (n0 : 0 ≤ nn) (n1 : nn ≤ 160) (h14 : fI f0 a0 14 = nn) (hT : ∀ i : Int, 0 ≤ i → i < 168 → aI f0 (ad 8) i = Tt i) (bT : ∀ i : Int, 0 ≤ Tt i ∧ Tt i ≤ 255) (e0 : 0 ≤ fI f0 a0 16) (e1 : fI f0 a0 16 ≤ nn) : Cv Z l yX10_next (Cond.code yX10_next cX10_next 3 none :: TB) ({ frames := 1, cells := 0, slots := 0, locals := 21 } : Room) 0 0 D (tq cy) [.ref a0] L0 f0 (fun (L1 : List Nat) (f1 : Nat → va_E) => L0 = L1 ∧ MS cy L0 f1 a0 ad ∧ Kp a0 ad [] [15, 16, 17, 18, 19] f0 f1 ∧ (NXP Tt nn f0 f1 a0)) := by
  refine Cv.enter (cc := cX10_next) (n := 3) rfl (plainFor_of_name (by decide)) (Nat.le_of_ble_eq_true rfl) ?_
  intro p e s m below meth c ls A hx hb hr hts hown hlocks hnm hml hK hA hAe hw hZ hl
  have hown : s.vm.findClass RX10 = some m.cls := hown
  have hl : lv_has ls 3 [(0, .ref a0)] := hl
  have hN : ZN s := (zo.2.2.2.2 _ _ _ hZ).2
  have hE : Kp a0 ad [] [15, 16, 17, 18, 19] f0 f0 := Kp.refl _ _ _ _ _
  have pb := tP_b (T := Tt) e1
  have J233 : ∀ (z1_233 : Int) (lz1_233 : -2147483648 ≤ z1_233) (uz1_233 : z1_233 ≤ 2147483647) (L : List Nat) (fw233 : Nat → va_E) (hs : MS cy L0 fw233 a0 ad) (hE : Kp a0 ad [] [15, 16, 17, 18, 19] f0 fw233) (c4 : fI f0 a0 20 ≤ 0) (pe : z1_233 = tP Tt nn (fI f0 a0 16)) (i5 : fI fw233 a0 14 = nn) (x15 : fI fw233 a0 15 = z1_233) (ty : 2 = tyA Tt nn z1_233) (rr : rn Tt nn 2 z1_233 = rn Tt nn 2 (fI fw233 a0 16)) (tn : nn ≤ fI fw233 a0 16 ∨ tyA Tt nn (fI fw233 a0 16) ≠ 2) (b0 : z1_233 ≤ fI fw233 a0 16) (b1 : fI fw233 a0 16 ≤ nn) (nb : NVd Tt z1_233 (fI fw233 a0 16) (fI fw233 a0 19)) (H : Heap) (locs : List Loc) (ls : Array Slot) (hw : Wd D A s.heap L0 fw233 H locs) (hl : lv_has ls 3 [(0, .ref a0), (1, .int (iI z1_233))]), W p l e ({ frames := 1, cells := 0, slots := 0, locals := 21 } : Room) s m ([.ref a0] : List Value).toArray below meth c H locs (0) (0) (MQ below (Qv D (tq cy) L0 f0 s.heap.size (fun (L1 : List Nat) (f1 : Nat → va_E) => L0 = L1 ∧ MS cy L0 f1 a0 ad ∧ Kp a0 ad [] [15, 16, 17, 18, 19] f0 f1 ∧ (NXP Tt nn f0 f1 a0))) ([.ref a0] : List Value).toArray s 0 0 A) (F0 m 233 ls []) := by
    intro z1_233 lz1_233 uz1_233 L fw233 hs hE c4 pe i5 x15 ty rr tn b0 b1 nb H locs ls hw hl
    have Q8 : aI fw233 (ad 8) = aI f0 (ad 8) := funext fun x => hE.1 8 rfl (by decide) x
    refine lv_aload_n hx hb dX10_next_233 rfl (lv_at hl 0 rfl) ?_
    refine lv_aload_n hx hb dX10_next_234 rfl (lv_at hl 0 rfl) ?_
    refine q_geti (ci := 8) (C := RX10) (T := TX10) (N := 26) hx hb hts (fun w h => List.mem_cons_of_mem _ (mfX100 w h)) hown hK hw hs.1 hs.2.1 rfl 16 (by decide) (hts _ (List.mem_cons_of_mem _ (mr19 _ (List.mem_of_getElem? (i := 3) rfl)))) (fun _ h => h) rfl dX10_next_235 (fun x_1 lx_1 ux_1 ex_1 => ?_)
    refine lv_iload_n hx hb dX10_next_238 rfl (lv_at hl 1 rfl) ?_
    first | refine q_isub hx hb dX10_next_239 ⟨by omega, by omega⟩ (fun x_2 lx_2 ux_2 ex_2 => ?_) | refine q_isubw hx hb dX10_next_239 (fun x_2 lx_2 ux_2 ex_2 => ?_)
    refine q_iconst hx hb dX10_next_240 ?_
    refine q_icmp_ge (tgt := 248) hx hb dX10_next_241 (by decide) ⟨lx_2, ux_2⟩ ⟨by decide, by decide⟩ (fun c241 => ?_) (fun c241 => ?_)
    · refine q_iconst hx hb dX10_next_248 ?_
      refine q_puti (ci := 8) (C := RX10) (T := TX10) (N := 26) hx hb hts (fun w h => List.mem_cons_of_mem _ (mfX100 w h)) hown hK hw hs.1 hs.2.1 rfl 17 (by decide) (hts _ (List.mem_cons_of_mem _ (mr19 _ (List.mem_of_getElem? (i := 9) rfl)))) (fun _ h => h) tyX10 tyX10_ok nmX10 rfl (ty := .int) (by decide +kernel) rfl rfl dX10_next_249 (fun H locs hw => ?_)
      obtain ⟨f_3, ef_3⟩ : ∃ g : Nat → va_E, g = pU fw233 a0 17 (.int (iI 3)) := ⟨_, rfl⟩
      have l18_f_3 : fL f_3 a0 18 = fL fw233 a0 18 := by rw [ef_3]; exact fL_pU (Or.inr (by decide))
      have v17_f_3 : fI f_3 a0 17 = 3 := by rw [ef_3]; exact fI_pU_self hs.2.1 rfl ⟨by decide, by decide⟩
      have t14_f_3 : fI f_3 a0 14 = fI fw233 a0 14 := by rw [ef_3]; exact fI_pU (Or.inr (by decide))
      have t15_f_3 : fI f_3 a0 15 = fI fw233 a0 15 := by rw [ef_3]; exact fI_pU (Or.inr (by decide))
      have t16_f_3 : fI f_3 a0 16 = fI fw233 a0 16 := by rw [ef_3]; exact fI_pU (Or.inr (by decide))
      have t19_f_3 : fI f_3 a0 19 = fI fw233 a0 19 := by rw [ef_3]; exact fI_pU (Or.inr (by decide))
      have hE := hE.trans (show Kp a0 ad [] [15, 16, 17, 18, 19] fw233 f_3 by rw [ef_3]; exact Kp_pU hs (by decide))
      have hs : MS cy L0 f_3 a0 ad := by rw [ef_3]; exact MS_pU hs rfl
      rw [← ef_3] at hw
      have Q8 : aI f_3 (ad 8) = aI f0 (ad 8) := funext fun x => hE.1 8 rfl (by decide) x
      exact q_ret_v hx hb hr hlocks hK hAe hw (Nat.le_of_ble_eq_true rfl) (Nat.le_of_ble_eq_true rfl) dX10_next_252 (by first | exact ⟨rfl, hs, hE, Or.inr ⟨by omega, srr_3 pe ty.1 (by omega) (by omega), by omega, by omega⟩⟩ | exact ⟨rfl, hs, hE, Or.inr ⟨by omega, srr_1 pe ty x15 rfl x17 rr tn wk, by omega, by omega⟩⟩ | exact ⟨rfl, hs, hE, Or.inr ⟨by omega, srr_2 pe ty (by omega) t16_f_3 rr tn (by omega) (fun h => Eq.trans (by omega) (nvd_v nb h)), by omega, by omega⟩⟩ | exact ⟨rfl, hs, hE, Or.inr ⟨by omega, srr_0 pe y9 (by omega) (by omega) (by omega), by omega, by omega⟩⟩)
    · refine q_iconst hx hb dX10_next_244 ?_
      refine lv_goto (tgt := 249) hx hb dX10_next_245 (by decide) ?_
      refine q_puti (ci := 8) (C := RX10) (T := TX10) (N := 26) hx hb hts (fun w h => List.mem_cons_of_mem _ (mfX100 w h)) hown hK hw hs.1 hs.2.1 rfl 17 (by decide) (hts _ (List.mem_cons_of_mem _ (mr19 _ (List.mem_of_getElem? (i := 9) rfl)))) (fun _ h => h) tyX10 tyX10_ok nmX10 rfl (ty := .int) (by decide +kernel) rfl rfl dX10_next_249 (fun H locs hw => ?_)
      obtain ⟨f_4, ef_4⟩ : ∃ g : Nat → va_E, g = pU fw233 a0 17 (.int (iI 2)) := ⟨_, rfl⟩
      have l18_f_4 : fL f_4 a0 18 = fL fw233 a0 18 := by rw [ef_4]; exact fL_pU (Or.inr (by decide))
      have v17_f_4 : fI f_4 a0 17 = 2 := by rw [ef_4]; exact fI_pU_self hs.2.1 rfl ⟨by decide, by decide⟩
      have t14_f_4 : fI f_4 a0 14 = fI fw233 a0 14 := by rw [ef_4]; exact fI_pU (Or.inr (by decide))
      have t15_f_4 : fI f_4 a0 15 = fI fw233 a0 15 := by rw [ef_4]; exact fI_pU (Or.inr (by decide))
      have t16_f_4 : fI f_4 a0 16 = fI fw233 a0 16 := by rw [ef_4]; exact fI_pU (Or.inr (by decide))
      have t19_f_4 : fI f_4 a0 19 = fI fw233 a0 19 := by rw [ef_4]; exact fI_pU (Or.inr (by decide))
      have hE := hE.trans (show Kp a0 ad [] [15, 16, 17, 18, 19] fw233 f_4 by rw [ef_4]; exact Kp_pU hs (by decide))
      have hs : MS cy L0 f_4 a0 ad := by rw [ef_4]; exact MS_pU hs rfl
      rw [← ef_4] at hw
      have Q8 : aI f_4 (ad 8) = aI f0 (ad 8) := funext fun x => hE.1 8 rfl (by decide) x
      exact q_ret_v hx hb hr hlocks hK hAe hw (Nat.le_of_ble_eq_true rfl) (Nat.le_of_ble_eq_true rfl) dX10_next_252 (by first | exact ⟨rfl, hs, hE, Or.inr ⟨by omega, srr_3 pe ty.1 (by omega) (by omega), by omega, by omega⟩⟩ | exact ⟨rfl, hs, hE, Or.inr ⟨by omega, srr_1 pe ty x15 rfl x17 rr tn wk, by omega, by omega⟩⟩ | exact ⟨rfl, hs, hE, Or.inr ⟨by omega, srr_2 pe ty (by omega) t16_f_4 rr tn (by omega) (fun h => Eq.trans (by omega) (nvd_v nb h)), by omega, by omega⟩⟩ | exact ⟨rfl, hs, hE, Or.inr ⟨by omega, srr_0 pe y9 (by omega) (by omega) (by omega), by omega, by omega⟩⟩)
  have J168 : ∀ (z1_168 : Int) (lz1_168 : -2147483648 ≤ z1_168) (uz1_168 : z1_168 ≤ 2147483647) (L : List Nat) (fw168 : Nat → va_E) (hs : MS cy L0 fw168 a0 ad) (hE : Kp a0 ad [] [15, 16, 17, 18, 19] f0 fw168) (c4 : fI f0 a0 20 ≤ 0) (pe : z1_168 = tP Tt nn (fI f0 a0 16)) (i5 : fI fw168 a0 14 = nn) (x15 : fI fw168 a0 15 = z1_168) (x17 : fI fw168 a0 17 = 3) (x19 : fI fw168 a0 19 = 0) (ty : 2 = tyA Tt nn z1_168) (tl : z1_168 < nn) (H : Heap) (locs : List Loc) (ls : Array Slot) (hw : Wd D A s.heap L0 fw168 H locs) (hl : lv_has ls 3 [(0, .ref a0), (1, .int (iI z1_168))]), W p l e ({ frames := 1, cells := 0, slots := 0, locals := 21 } : Room) s m ([.ref a0] : List Value).toArray below meth c H locs (0) (0) (MQ below (Qv D (tq cy) L0 f0 s.heap.size (fun (L1 : List Nat) (f1 : Nat → va_E) => L0 = L1 ∧ MS cy L0 f1 a0 ad ∧ Kp a0 ad [] [15, 16, 17, 18, 19] f0 f1 ∧ (NXP Tt nn f0 f1 a0))) ([.ref a0] : List Value).toArray s 0 0 A) (F0 m 168 ls []) := by
    intro z1_168 lz1_168 uz1_168 L fw168 hs hE c4 pe i5 x15 x17 x19 ty tl H locs ls hw hl
    have Q8 : aI fw168 (ad 8) = aI f0 (ad 8) := funext fun x => hE.1 8 rfl (by decide) x
    refine lv_aload_n hx hb dX10_next_168 rfl (lv_at hl 0 rfl) ?_
    refine lv_iload_n hx hb dX10_next_169 rfl (lv_at hl 1 rfl) ?_
    refine q_puti (ci := 8) (C := RX10) (T := TX10) (N := 26) hx hb hts (fun w h => List.mem_cons_of_mem _ (mfX100 w h)) hown hK hw hs.1 hs.2.1 rfl 16 (by decide) (hts _ (List.mem_cons_of_mem _ (mr19 _ (List.mem_of_getElem? (i := 3) rfl)))) (fun _ h => h) tyX10 tyX10_ok nmX10 rfl (ty := .int) (by decide +kernel) rfl rfl dX10_next_170 (fun H locs hw => ?_)
    obtain ⟨f_5, ef_5⟩ : ∃ g : Nat → va_E, g = pU fw168 a0 16 (.int (iI z1_168)) := ⟨_, rfl⟩
    have l18_f_5 : fL f_5 a0 18 = fL fw168 a0 18 := by rw [ef_5]; exact fL_pU (Or.inr (by decide))
    have v16_f_5 : fI f_5 a0 16 = z1_168 := by rw [ef_5]; exact fI_pU_self hs.2.1 rfl ⟨lz1_168, uz1_168⟩
    have t14_f_5 : fI f_5 a0 14 = fI fw168 a0 14 := by rw [ef_5]; exact fI_pU (Or.inr (by decide))
    have t15_f_5 : fI f_5 a0 15 = fI fw168 a0 15 := by rw [ef_5]; exact fI_pU (Or.inr (by decide))
    have t17_f_5 : fI f_5 a0 17 = fI fw168 a0 17 := by rw [ef_5]; exact fI_pU (Or.inr (by decide))
    have t19_f_5 : fI f_5 a0 19 = fI fw168 a0 19 := by rw [ef_5]; exact fI_pU (Or.inr (by decide))
    have hE := hE.trans (show Kp a0 ad [] [15, 16, 17, 18, 19] fw168 f_5 by rw [ef_5]; exact Kp_pU hs (by decide))
    have hs : MS cy L0 f_5 a0 ad := by rw [ef_5]; exact MS_pU hs rfl
    rw [← ef_5] at hw
    have Q8 : aI f_5 (ad 8) = aI f0 (ad 8) := funext fun x => hE.1 8 rfl (by decide) x
    have J173 : ∀ (n173 : Nat) (L : List Nat) (fw173 : Nat → va_E) (hs : MS cy L0 fw173 a0 ad) (hE : Kp a0 ad [] [15, 16, 17, 18, 19] f0 fw173) (i5 : fI fw173 a0 14 = nn) (x15 : fI fw173 a0 15 = z1_168) (b0 : z1_168 ≤ fI fw173 a0 16) (b1 : fI fw173 a0 16 ≤ nn) (x17 : fI fw173 a0 17 = 3) (rr : rn Tt nn 2 z1_168 = rn Tt nn 2 (fI fw173 a0 16)) (nb : NVd Tt z1_168 (fI fw173 a0 16) (fI fw173 a0 19)) (hn173 : (168 - fI fw173 a0 16).toNat < n173) (H : Heap) (locs : List Loc) (ls : Array Slot) (hw : Wd D A s.heap L0 fw173 H locs) (hl : lv_has ls 3 [(0, .ref a0), (1, .int (iI z1_168))]), W p l e ({ frames := 1, cells := 0, slots := 0, locals := 21 } : Room) s m ([.ref a0] : List Value).toArray below meth c H locs (0) (0) (MQ below (Qv D (tq cy) L0 f0 s.heap.size (fun (L1 : List Nat) (f1 : Nat → va_E) => L0 = L1 ∧ MS cy L0 f1 a0 ad ∧ Kp a0 ad [] [15, 16, 17, 18, 19] f0 f1 ∧ (NXP Tt nn f0 f1 a0))) ([.ref a0] : List Value).toArray s 0 0 A) (F0 m 173 ls []) := by
      intro n173
      induction n173 with
      | zero => intro L fw173 hs hE i5 x15 b0 b1 x17 rr nb hn173; exact absurd hn173 (Nat.not_lt_zero _)
      | succ n173 ih173 =>
        intro L fw173 hs hE i5 x15 b0 b1 x17 rr nb hn173 H locs ls hw hl
        have Q8 : aI fw173 (ad 8) = aI f0 (ad 8) := funext fun x => hE.1 8 rfl (by decide) x
        refine lv_aload_n hx hb dX10_next_173 rfl (lv_at hl 0 rfl) ?_
        refine lv_aload_n hx hb dX10_next_174 rfl (lv_at hl 0 rfl) ?_
        refine q_geti (ci := 8) (C := RX10) (T := TX10) (N := 26) hx hb hts (fun w h => List.mem_cons_of_mem _ (mfX100 w h)) hown hK hw hs.1 hs.2.1 rfl 16 (by decide) (hts _ (List.mem_cons_of_mem _ (mr19 _ (List.mem_of_getElem? (i := 3) rfl)))) (fun _ h => h) rfl dX10_next_175 (fun x_6 lx_6 ux_6 ex_6 => ?_)
        refine q_call_i hA hK hw (va_runV (As := [.int (iI x_6)]) (rest := []) ⟨hx, hb, hml, hown, hts⟩ (c_X10_byteAt zo l D cy L0 fw173 a0 x_6 lx_6 ux_6 ad hs (by omega) (by omega) _) (cwV 1 hts (gT (inV (mr19 _ (List.mem_of_getElem? (i := 13) rfl)) (mr19 _ (List.mem_of_getElem? (i := 14) rfl)) (mr19 _ (List.mem_of_getElem? (i := 15) rfl)) (mr1 _ (List.mem_of_getElem? (i := 5) rfl)) (mr19 _ (List.mem_of_getElem? (i := 16) rfl)))) rfl rfl rfl (by decide +kernel) ⟨Nat.le_of_ble_eq_true rfl, Nat.le_of_ble_eq_true rfl⟩) (Wd.preV zo hA hZ hw hK hs.1 hs.2.1 rfl) rfl rfl hl.1 rfl (lv_room (Nat.le_of_ble_eq_true rfl)) dX10_next_178 ⟨Nat.le_of_ble_eq_true rfl, Nat.le_of_ble_eq_true rfl⟩) (fun x_7 L1 f1 H locs lx_7 ux_7 ex_7 hw => ?_)
        obtain ⟨rfl, rfl, ex_7⟩ := ex_7
        have y178 : BYT Tt nn x_6 x_7 := by rcases ex_7 with q | q; (exact Or.inl ⟨by omega, q.1⟩); (exact Or.inr ⟨by omega, q.2.trans ((by first | exact rfl | exact congrFun Q8 _ : _ = aI f0 (ad 8) x_6).trans (hT x_6 (by omega) (by omega)))⟩)
        clear ex_7
        refine q_call_i hA hK hw (va_runS (As := [.int (iI x_7)]) (rest := []) ⟨hx, hb, hml, hown, hts⟩ (c_X10_isDigit zo l D cy L0 fw173 x_7 lx_7 ux_7 _) (va_cwS 1 hts (gT (inS (mr19 _ (List.mem_of_getElem? (i := 20) rfl)) (mr19 _ (List.mem_of_getElem? (i := 21) rfl)) (mr1 _ (List.mem_of_getElem? (i := 5) rfl)) (mr19 _ (List.mem_of_getElem? (i := 22) rfl)))) rfl rfl rfl (by decide +kernel) ⟨Nat.le_of_ble_eq_true rfl, Nat.le_of_ble_eq_true rfl⟩) (Wd.preS zo hA hZ hw hK) rfl rfl hl.1 rfl (lv_room (Nat.le_of_ble_eq_true rfl)) dX10_next_181 ⟨Nat.le_of_ble_eq_true rfl, Nat.le_of_ble_eq_true rfl⟩) (fun x_8 L1 f1 H locs lx_8 ux_8 ex_8 hw => ?_)
        obtain ⟨rfl, rfl, ex_8⟩ := ex_8
        have s181 := ex_8
        clear ex_8
        refine q_if_eq (tgt := 233) hx hb dX10_next_184 (by decide) ⟨lx_8, ux_8⟩ (fun c184 => ?_) (fun c184 => ?_)
        · have tn := byt_n2 (k' := fI fw173 a0 16) y178 (dg_n s181 (by omega)) (by omega)
          clear s181
          exact J233 z1_168 lz1_168 uz1_168 L0 fw173 hs hE (by omega) (by exact pe) (by omega) (by omega) (by exact ty) (by first | exact rr | exact congrArg (rn Tt nn 2) (by omega) | exact rn_st rr (by omega) tg (by omega)) (by exact tn) (by omega) (by omega) (by exact nb) _ _ _ hw (lv_sub hl [0, 1] rfl)
        · have tg' := byt_2 (k' := fI fw173 a0 16) y178 (dg_y s181 (by omega)) (by omega)
          clear s181
          have tg := tg'.1.symm
          have tb := (tyA_2 tg).2
          refine lv_aload_n hx hb dX10_next_187 rfl (lv_at hl 0 rfl) ?_
          refine q_geti (ci := 8) (C := RX10) (T := TX10) (N := 26) hx hb hts (fun w h => List.mem_cons_of_mem _ (mfX100 w h)) hown hK hw hs.1 hs.2.1 rfl 16 (by decide) (hts _ (List.mem_cons_of_mem _ (mr19 _ (List.mem_of_getElem? (i := 3) rfl)))) (fun _ h => h) rfl dX10_next_188 (fun x_9 lx_9 ux_9 ex_9 => ?_)
          refine lv_iload_n hx hb dX10_next_191 rfl (lv_at hl 1 rfl) ?_
          first | refine q_isub hx hb dX10_next_192 ⟨by omega, by omega⟩ (fun x_10 lx_10 ux_10 ex_10 => ?_) | refine q_isubw hx hb dX10_next_192 (fun x_10 lx_10 ux_10 ex_10 => ?_)
          refine q_iconst hx hb dX10_next_193 ?_
          have J220 : ∀ (L : List Nat) (fw220 : Nat → va_E) (hs : MS cy L0 fw220 a0 ad) (hE : Kp a0 ad [] [15, 16, 17, 18, 19] f0 fw220) (k5 : fI fw220 a0 14 = nn) (k15 : fI fw220 a0 15 = z1_168) (k17 : fI fw220 a0 17 = 3) (k0 : fI fw220 a0 16 = fI fw173 a0 16) (k19 : NVd Tt z1_168 (fI fw220 a0 16 + 1) (fI fw220 a0 19)) (H : Heap) (locs : List Loc) (ls : Array Slot) (hw : Wd D A s.heap L0 fw220 H locs) (hl : lv_has ls 3 [(0, .ref a0), (1, .int (iI z1_168))]), W p l e ({ frames := 1, cells := 0, slots := 0, locals := 21 } : Room) s m ([.ref a0] : List Value).toArray below meth c H locs (0 + 0 + 0) (0 + 0 + 0) (MQ below (Qv D (tq cy) L0 f0 s.heap.size (fun (L1 : List Nat) (f1 : Nat → va_E) => L0 = L1 ∧ MS cy L0 f1 a0 ad ∧ Kp a0 ad [] [15, 16, 17, 18, 19] f0 f1 ∧ (NXP Tt nn f0 f1 a0))) ([.ref a0] : List Value).toArray s 0 0 A) (F0 m 220 ls []) := by
            intro L fw220 hs hE k5 k15 k17 k0 k19 H locs ls hw hl
            have Q8 : aI fw220 (ad 8) = aI f0 (ad 8) := funext fun x => hE.1 8 rfl (by decide) x
            refine lv_aload_n hx hb dX10_next_220 rfl (lv_at hl 0 rfl) ?_
            refine lv_dup hx hb dX10_next_221 rfl ?_
            refine q_geti (ci := 8) (C := RX10) (T := TX10) (N := 26) hx hb hts (fun w h => List.mem_cons_of_mem _ (mfX100 w h)) hown hK hw hs.1 hs.2.1 rfl 16 (by decide) (hts _ (List.mem_cons_of_mem _ (mr19 _ (List.mem_of_getElem? (i := 3) rfl)))) (fun _ h => h) rfl dX10_next_222 (fun x_11 lx_11 ux_11 ex_11 => ?_)
            refine q_iconst hx hb dX10_next_225 ?_
            first | refine q_iadd hx hb dX10_next_226 ⟨by omega, by omega⟩ (fun x_12 lx_12 ux_12 ex_12 => ?_) | refine q_iaddw hx hb dX10_next_226 (fun x_12 lx_12 ux_12 ex_12 => ?_)
            refine q_puti (ci := 8) (C := RX10) (T := TX10) (N := 26) hx hb hts (fun w h => List.mem_cons_of_mem _ (mfX100 w h)) hown hK hw hs.1 hs.2.1 rfl 16 (by decide) (hts _ (List.mem_cons_of_mem _ (mr19 _ (List.mem_of_getElem? (i := 3) rfl)))) (fun _ h => h) tyX10 tyX10_ok nmX10 rfl (ty := .int) (by decide +kernel) rfl rfl dX10_next_227 (fun H locs hw => ?_)
            obtain ⟨f_13, ef_13⟩ : ∃ g : Nat → va_E, g = pU fw220 a0 16 (.int (iI x_12)) := ⟨_, rfl⟩
            have l18_f_13 : fL f_13 a0 18 = fL fw220 a0 18 := by rw [ef_13]; exact fL_pU (Or.inr (by decide))
            have v16_f_13 : fI f_13 a0 16 = x_12 := by rw [ef_13]; exact fI_pU_self hs.2.1 rfl ⟨lx_12, ux_12⟩
            have t14_f_13 : fI f_13 a0 14 = fI fw220 a0 14 := by rw [ef_13]; exact fI_pU (Or.inr (by decide))
            have t15_f_13 : fI f_13 a0 15 = fI fw220 a0 15 := by rw [ef_13]; exact fI_pU (Or.inr (by decide))
            have t17_f_13 : fI f_13 a0 17 = fI fw220 a0 17 := by rw [ef_13]; exact fI_pU (Or.inr (by decide))
            have t19_f_13 : fI f_13 a0 19 = fI fw220 a0 19 := by rw [ef_13]; exact fI_pU (Or.inr (by decide))
            have hE := hE.trans (show Kp a0 ad [] [15, 16, 17, 18, 19] fw220 f_13 by rw [ef_13]; exact Kp_pU hs (by decide))
            have hs : MS cy L0 f_13 a0 ad := by rw [ef_13]; exact MS_pU hs rfl
            rw [← ef_13] at hw
            have Q8 : aI f_13 (ad 8) = aI f0 (ad 8) := funext fun x => hE.1 8 rfl (by decide) x
            refine lv_goto (tgt := 173) hx hb dX10_next_230 (by decide) ?_
            exact ih173 L0 f_13 hs hE (by omega) (by omega) (by omega) (by omega) (by omega) (by first | exact rr | exact congrArg (rn Tt nn 2) (by omega) | exact rn_st rr (by omega) tg (by omega)) (by first | exact nvd_0 (by omega) | exact nvd_to k19 (by omega)) (by omega) _ _ _ hw (lv_sub hl [0, 1] rfl)
          refine q_icmp_ge (tgt := 220) hx hb dX10_next_194 (by decide) ⟨lx_10, ux_10⟩ ⟨by decide, by decide⟩ (fun c194 => ?_) (fun c194 => ?_)
          · exact J220 L0 fw173 hs hE (by omega) (by omega) (by omega) (by omega) (by first | exact nvd_big (by omega) | exact nvd_st nb (by omega) (by omega) v210 tb (by omega) (by omega)) _ _ _ hw (lv_sub hl [0, 1] rfl)
          · have r9 := nvd_r nb (by omega) (by omega)
            refine lv_aload_n hx hb dX10_next_197 rfl (lv_at hl 0 rfl) ?_
            refine q_bipush hx hb dX10_next_198 rfl ?_
            refine lv_aload_n hx hb dX10_next_200 rfl (lv_at hl 0 rfl) ?_
            refine q_geti (ci := 8) (C := RX10) (T := TX10) (N := 26) hx hb hts (fun w h => List.mem_cons_of_mem _ (mfX100 w h)) hown hK hw hs.1 hs.2.1 rfl 19 (by decide) (hts _ (List.mem_cons_of_mem _ (mr19 _ (List.mem_of_getElem? (i := 11) rfl)))) (fun _ h => h) rfl dX10_next_201 (fun x_14 lx_14 ux_14 ex_14 => ?_)
            first | refine q_imul hx hb dX10_next_204 ⟨by omega, by omega⟩ (fun x_15 lx_15 ux_15 ex_15 => ?_) | refine q_imulw hx hb dX10_next_204 (fun x_15 lx_15 ux_15 ex_15 => ?_)
            refine lv_aload_n hx hb dX10_next_205 rfl (lv_at hl 0 rfl) ?_
            refine lv_aload_n hx hb dX10_next_206 rfl (lv_at hl 0 rfl) ?_
            refine q_geti (ci := 8) (C := RX10) (T := TX10) (N := 26) hx hb hts (fun w h => List.mem_cons_of_mem _ (mfX100 w h)) hown hK hw hs.1 hs.2.1 rfl 16 (by decide) (hts _ (List.mem_cons_of_mem _ (mr19 _ (List.mem_of_getElem? (i := 3) rfl)))) (fun _ h => h) rfl dX10_next_207 (fun x_16 lx_16 ux_16 ex_16 => ?_)
            refine q_call_i hA hK hw (va_runV (As := [.int (iI x_16)]) (rest := [.int (iI x_15), .ref a0]) ⟨hx, hb, hml, hown, hts⟩ (c_X10_byteAt zo l D cy L0 fw173 a0 x_16 lx_16 ux_16 ad hs (by omega) (by omega) _) (cwV 1 hts (gT (inV (mr19 _ (List.mem_of_getElem? (i := 13) rfl)) (mr19 _ (List.mem_of_getElem? (i := 14) rfl)) (mr19 _ (List.mem_of_getElem? (i := 15) rfl)) (mr1 _ (List.mem_of_getElem? (i := 5) rfl)) (mr19 _ (List.mem_of_getElem? (i := 16) rfl)))) rfl rfl rfl (by decide +kernel) ⟨Nat.le_of_ble_eq_true rfl, Nat.le_of_ble_eq_true rfl⟩) (Wd.preV zo hA hZ hw hK hs.1 hs.2.1 rfl) rfl rfl hl.1 rfl (lv_room (Nat.le_of_ble_eq_true rfl)) dX10_next_210 ⟨Nat.le_of_ble_eq_true rfl, Nat.le_of_ble_eq_true rfl⟩) (fun x_17 L1 f1 H locs lx_17 ux_17 ex_17 hw => ?_)
            obtain ⟨rfl, rfl, ex_17⟩ := ex_17
            have y210 : BYT Tt nn x_16 x_17 := by rcases ex_17 with q | q; (exact Or.inl ⟨by omega, q.1⟩); (exact Or.inr ⟨by omega, q.2.trans ((by first | exact rfl | exact congrFun Q8 _ : _ = aI f0 (ad 8) x_16).trans (hT x_16 (by omega) (by omega)))⟩)
            clear ex_17
            have v210 := byt_v (k' := fI fw173 a0 16) y210 (by omega) (by omega)
            first | refine q_iadd hx hb dX10_next_213 ⟨by omega, by omega⟩ (fun x_18 lx_18 ux_18 ex_18 => ?_) | refine q_iaddw hx hb dX10_next_213 (fun x_18 lx_18 ux_18 ex_18 => ?_)
            refine q_bipush hx hb dX10_next_214 rfl ?_
            first | refine q_isub hx hb dX10_next_216 ⟨by omega, by omega⟩ (fun x_19 lx_19 ux_19 ex_19 => ?_) | refine q_isubw hx hb dX10_next_216 (fun x_19 lx_19 ux_19 ex_19 => ?_)
            refine q_puti (ci := 8) (C := RX10) (T := TX10) (N := 26) hx hb hts (fun w h => List.mem_cons_of_mem _ (mfX100 w h)) hown hK hw hs.1 hs.2.1 rfl 19 (by decide) (hts _ (List.mem_cons_of_mem _ (mr19 _ (List.mem_of_getElem? (i := 11) rfl)))) (fun _ h => h) tyX10 tyX10_ok nmX10 rfl (ty := .int) (by decide +kernel) rfl rfl dX10_next_217 (fun H locs hw => ?_)
            obtain ⟨f_20, ef_20⟩ : ∃ g : Nat → va_E, g = pU fw173 a0 19 (.int (iI x_19)) := ⟨_, rfl⟩
            have l18_f_20 : fL f_20 a0 18 = fL fw173 a0 18 := by rw [ef_20]; exact fL_pU (Or.inr (by decide))
            have v19_f_20 : fI f_20 a0 19 = x_19 := by rw [ef_20]; exact fI_pU_self hs.2.1 rfl ⟨lx_19, ux_19⟩
            have t14_f_20 : fI f_20 a0 14 = fI fw173 a0 14 := by rw [ef_20]; exact fI_pU (Or.inr (by decide))
            have t15_f_20 : fI f_20 a0 15 = fI fw173 a0 15 := by rw [ef_20]; exact fI_pU (Or.inr (by decide))
            have t16_f_20 : fI f_20 a0 16 = fI fw173 a0 16 := by rw [ef_20]; exact fI_pU (Or.inr (by decide))
            have t17_f_20 : fI f_20 a0 17 = fI fw173 a0 17 := by rw [ef_20]; exact fI_pU (Or.inr (by decide))
            have hE := hE.trans (show Kp a0 ad [] [15, 16, 17, 18, 19] fw173 f_20 by rw [ef_20]; exact Kp_pU hs (by decide))
            have hs : MS cy L0 f_20 a0 ad := by rw [ef_20]; exact MS_pU hs rfl
            rw [← ef_20] at hw
            have Q8 : aI f_20 (ad 8) = aI f0 (ad 8) := funext fun x => hE.1 8 rfl (by decide) x
            exact J220 L0 f_20 hs hE (by omega) (by omega) (by omega) (by omega) (by first | exact nvd_big (by omega) | exact nvd_st nb (by omega) (by omega) v210 tb (by omega) (by omega)) _ _ _ hw (lv_sub hl [0, 1] rfl)
    exact J173 (((168 - fI f_5 a0 16).toNat) + 1) L0 f_5 hs hE (by omega) (by omega) (by omega) (by omega) (by omega) (by first | exact rr | exact congrArg (rn Tt nn 2) (by omega) | exact rn_st rr (by omega) tg (by omega)) (by first | exact nvd_0 (by omega) | exact nvd_to k19 (by omega)) (by omega) _ _ _ hw (lv_sub hl [0, 1] rfl)
  have J87 : ∀ (z1_87 : Int) (lz1_87 : -2147483648 ≤ z1_87) (uz1_87 : z1_87 ≤ 2147483647) (L : List Nat) (fw87 : Nat → va_E) (hs : MS cy L0 fw87 a0 ad) (hE : Kp a0 ad [] [15, 16, 17, 18, 19] f0 fw87) (c4 : fI f0 a0 20 ≤ 0) (pe : z1_87 = tP Tt nn (fI f0 a0 16)) (i5 : fI fw87 a0 14 = nn) (x15 : fI fw87 a0 15 = z1_87) (x18 : fL fw87 a0 18 = 0) (ty : 1 = tyA Tt nn z1_87) (tl : z1_87 < nn) (H : Heap) (locs : List Loc) (ls : Array Slot) (hw : Wd D A s.heap L0 fw87 H locs) (hl : lv_has ls 3 [(0, .ref a0), (1, .int (iI z1_87))]), W p l e ({ frames := 1, cells := 0, slots := 0, locals := 21 } : Room) s m ([.ref a0] : List Value).toArray below meth c H locs (0) (0) (MQ below (Qv D (tq cy) L0 f0 s.heap.size (fun (L1 : List Nat) (f1 : Nat → va_E) => L0 = L1 ∧ MS cy L0 f1 a0 ad ∧ Kp a0 ad [] [15, 16, 17, 18, 19] f0 f1 ∧ (NXP Tt nn f0 f1 a0))) ([.ref a0] : List Value).toArray s 0 0 A) (F0 m 87 ls []) := by
    intro z1_87 lz1_87 uz1_87 L fw87 hs hE c4 pe i5 x15 x18 ty tl H locs ls hw hl
    have Q8 : aI fw87 (ad 8) = aI f0 (ad 8) := funext fun x => hE.1 8 rfl (by decide) x
    refine lv_aload_n hx hb dX10_next_87 rfl (lv_at hl 0 rfl) ?_
    refine q_iconst hx hb dX10_next_88 ?_
    refine q_puti (ci := 8) (C := RX10) (T := TX10) (N := 26) hx hb hts (fun w h => List.mem_cons_of_mem _ (mfX100 w h)) hown hK hw hs.1 hs.2.1 rfl 17 (by decide) (hts _ (List.mem_cons_of_mem _ (mr19 _ (List.mem_of_getElem? (i := 9) rfl)))) (fun _ h => h) tyX10 tyX10_ok nmX10 rfl (ty := .int) (by decide +kernel) rfl rfl dX10_next_89 (fun H locs hw => ?_)
    obtain ⟨f_21, ef_21⟩ : ∃ g : Nat → va_E, g = pU fw87 a0 17 (.int (iI 1)) := ⟨_, rfl⟩
    have l18_f_21 : fL f_21 a0 18 = fL fw87 a0 18 := by rw [ef_21]; exact fL_pU (Or.inr (by decide))
    have v17_f_21 : fI f_21 a0 17 = 1 := by rw [ef_21]; exact fI_pU_self hs.2.1 rfl ⟨by decide, by decide⟩
    have t14_f_21 : fI f_21 a0 14 = fI fw87 a0 14 := by rw [ef_21]; exact fI_pU (Or.inr (by decide))
    have t15_f_21 : fI f_21 a0 15 = fI fw87 a0 15 := by rw [ef_21]; exact fI_pU (Or.inr (by decide))
    have t16_f_21 : fI f_21 a0 16 = fI fw87 a0 16 := by rw [ef_21]; exact fI_pU (Or.inr (by decide))
    have t19_f_21 : fI f_21 a0 19 = fI fw87 a0 19 := by rw [ef_21]; exact fI_pU (Or.inr (by decide))
    have hE := hE.trans (show Kp a0 ad [] [15, 16, 17, 18, 19] fw87 f_21 by rw [ef_21]; exact Kp_pU hs (by decide))
    have hs : MS cy L0 f_21 a0 ad := by rw [ef_21]; exact MS_pU hs rfl
    rw [← ef_21] at hw
    have Q8 : aI f_21 (ad 8) = aI f0 (ad 8) := funext fun x => hE.1 8 rfl (by decide) x
    refine lv_aload_n hx hb dX10_next_92 rfl (lv_at hl 0 rfl) ?_
    refine lv_iload_n hx hb dX10_next_93 rfl (lv_at hl 1 rfl) ?_
    refine q_puti (ci := 8) (C := RX10) (T := TX10) (N := 26) hx hb hts (fun w h => List.mem_cons_of_mem _ (mfX100 w h)) hown hK hw hs.1 hs.2.1 rfl 16 (by decide) (hts _ (List.mem_cons_of_mem _ (mr19 _ (List.mem_of_getElem? (i := 3) rfl)))) (fun _ h => h) tyX10 tyX10_ok nmX10 rfl (ty := .int) (by decide +kernel) rfl rfl dX10_next_94 (fun H locs hw => ?_)
    obtain ⟨f_22, ef_22⟩ : ∃ g : Nat → va_E, g = pU f_21 a0 16 (.int (iI z1_87)) := ⟨_, rfl⟩
    have l18_f_22 : fL f_22 a0 18 = fL f_21 a0 18 := by rw [ef_22]; exact fL_pU (Or.inr (by decide))
    have v16_f_22 : fI f_22 a0 16 = z1_87 := by rw [ef_22]; exact fI_pU_self hs.2.1 rfl ⟨lz1_87, uz1_87⟩
    have t14_f_22 : fI f_22 a0 14 = fI f_21 a0 14 := by rw [ef_22]; exact fI_pU (Or.inr (by decide))
    have t15_f_22 : fI f_22 a0 15 = fI f_21 a0 15 := by rw [ef_22]; exact fI_pU (Or.inr (by decide))
    have t17_f_22 : fI f_22 a0 17 = fI f_21 a0 17 := by rw [ef_22]; exact fI_pU (Or.inr (by decide))
    have t19_f_22 : fI f_22 a0 19 = fI f_21 a0 19 := by rw [ef_22]; exact fI_pU (Or.inr (by decide))
    have hE := hE.trans (show Kp a0 ad [] [15, 16, 17, 18, 19] f_21 f_22 by rw [ef_22]; exact Kp_pU hs (by decide))
    have hs : MS cy L0 f_22 a0 ad := by rw [ef_22]; exact MS_pU hs rfl
    rw [← ef_22] at hw
    have Q8 : aI f_22 (ad 8) = aI f0 (ad 8) := funext fun x => hE.1 8 rfl (by decide) x
    have J97 : ∀ (n97 : Nat) (L : List Nat) (fw97 : Nat → va_E) (hs : MS cy L0 fw97 a0 ad) (hE : Kp a0 ad [] [15, 16, 17, 18, 19] f0 fw97) (i5 : fI fw97 a0 14 = nn) (x15 : fI fw97 a0 15 = z1_87) (b0 : z1_87 ≤ fI fw97 a0 16) (b1 : fI fw97 a0 16 ≤ nn) (x17 : fI fw97 a0 17 = 1) (rr : rn Tt nn 1 z1_87 = rn Tt nn 1 (fI fw97 a0 16)) (wk : fL fw97 a0 18 = pkW Tt z1_87 (fI fw97 a0 16)) (hn97 : (168 - fI fw97 a0 16).toNat < n97) (H : Heap) (locs : List Loc) (ls : Array Slot) (hw : Wd D A s.heap L0 fw97 H locs) (hl : lv_has ls 3 [(0, .ref a0), (1, .int (iI z1_87))]), W p l e ({ frames := 1, cells := 0, slots := 0, locals := 21 } : Room) s m ([.ref a0] : List Value).toArray below meth c H locs (0) (0) (MQ below (Qv D (tq cy) L0 f0 s.heap.size (fun (L1 : List Nat) (f1 : Nat → va_E) => L0 = L1 ∧ MS cy L0 f1 a0 ad ∧ Kp a0 ad [] [15, 16, 17, 18, 19] f0 f1 ∧ (NXP Tt nn f0 f1 a0))) ([.ref a0] : List Value).toArray s 0 0 A) (F0 m 97 ls []) := by
      intro n97
      induction n97 with
      | zero => intro L fw97 hs hE i5 x15 b0 b1 x17 rr wk hn97; exact absurd hn97 (Nat.not_lt_zero _)
      | succ n97 ih97 =>
        intro L fw97 hs hE i5 x15 b0 b1 x17 rr wk hn97 H locs ls hw hl
        have Q8 : aI fw97 (ad 8) = aI f0 (ad 8) := funext fun x => hE.1 8 rfl (by decide) x
        refine lv_aload_n hx hb dX10_next_97 rfl (lv_at hl 0 rfl) ?_
        refine lv_aload_n hx hb dX10_next_98 rfl (lv_at hl 0 rfl) ?_
        refine q_geti (ci := 8) (C := RX10) (T := TX10) (N := 26) hx hb hts (fun w h => List.mem_cons_of_mem _ (mfX100 w h)) hown hK hw hs.1 hs.2.1 rfl 16 (by decide) (hts _ (List.mem_cons_of_mem _ (mr19 _ (List.mem_of_getElem? (i := 3) rfl)))) (fun _ h => h) rfl dX10_next_99 (fun x_23 lx_23 ux_23 ex_23 => ?_)
        refine q_call_i hA hK hw (va_runV (As := [.int (iI x_23)]) (rest := []) ⟨hx, hb, hml, hown, hts⟩ (c_X10_byteAt zo l D cy L0 fw97 a0 x_23 lx_23 ux_23 ad hs (by omega) (by omega) _) (cwV 1 hts (gT (inV (mr19 _ (List.mem_of_getElem? (i := 13) rfl)) (mr19 _ (List.mem_of_getElem? (i := 14) rfl)) (mr19 _ (List.mem_of_getElem? (i := 15) rfl)) (mr1 _ (List.mem_of_getElem? (i := 5) rfl)) (mr19 _ (List.mem_of_getElem? (i := 16) rfl)))) rfl rfl rfl (by decide +kernel) ⟨Nat.le_of_ble_eq_true rfl, Nat.le_of_ble_eq_true rfl⟩) (Wd.preV zo hA hZ hw hK hs.1 hs.2.1 rfl) rfl rfl hl.1 rfl (lv_room (Nat.le_of_ble_eq_true rfl)) dX10_next_102 ⟨Nat.le_of_ble_eq_true rfl, Nat.le_of_ble_eq_true rfl⟩) (fun x_24 L1 f1 H locs lx_24 ux_24 ex_24 hw => ?_)
        obtain ⟨rfl, rfl, ex_24⟩ := ex_24
        have y102 : BYT Tt nn x_23 x_24 := by rcases ex_24 with q | q; (exact Or.inl ⟨by omega, q.1⟩); (exact Or.inr ⟨by omega, q.2.trans ((by first | exact rfl | exact congrFun Q8 _ : _ = aI f0 (ad 8) x_23).trans (hT x_23 (by omega) (by omega)))⟩)
        clear ex_24
        refine q_call_i hA hK hw (va_runS (As := [.int (iI x_24)]) (rest := []) ⟨hx, hb, hml, hown, hts⟩ (c_X10_isSmall zo l D cy L0 fw97 x_24 lx_24 ux_24 _) (va_cwS 1 hts (gT (inS (mr19 _ (List.mem_of_getElem? (i := 17) rfl)) (mr19 _ (List.mem_of_getElem? (i := 18) rfl)) (mr1 _ (List.mem_of_getElem? (i := 5) rfl)) (mr19 _ (List.mem_of_getElem? (i := 19) rfl)))) rfl rfl rfl (by decide +kernel) ⟨Nat.le_of_ble_eq_true rfl, Nat.le_of_ble_eq_true rfl⟩) (Wd.preS zo hA hZ hw hK) rfl rfl hl.1 rfl (lv_room (Nat.le_of_ble_eq_true rfl)) dX10_next_105 ⟨Nat.le_of_ble_eq_true rfl, Nat.le_of_ble_eq_true rfl⟩) (fun x_25 L1 f1 H locs lx_25 ux_25 ex_25 hw => ?_)
        obtain ⟨rfl, rfl, ex_25⟩ := ex_25
        have s105 := ex_25
        clear ex_25
        refine q_if_eq (tgt := 252) hx hb dX10_next_108 (by decide) ⟨lx_25, ux_25⟩ (fun c108 => ?_) (fun c108 => ?_)
        · have tn := byt_n1 (k' := fI fw97 a0 16) y102 (sm_n s105 (by omega)) (by omega)
          clear s105
          exact q_ret_v hx hb hr hlocks hK hAe hw (Nat.le_of_ble_eq_true rfl) (Nat.le_of_ble_eq_true rfl) dX10_next_252 (by first | exact ⟨rfl, hs, hE, Or.inr ⟨by omega, srr_3 pe ty.1 (by omega) (by omega), by omega, by omega⟩⟩ | exact ⟨rfl, hs, hE, Or.inr ⟨by omega, srr_1 pe ty x15 rfl x17 rr tn wk, by omega, by omega⟩⟩ | exact ⟨rfl, hs, hE, Or.inr ⟨by omega, srr_2 pe ty (by omega) t16_fw97 rr tn (by omega) (fun h => Eq.trans (by omega) (nvd_v nb h)), by omega, by omega⟩⟩ | exact ⟨rfl, hs, hE, Or.inr ⟨by omega, srr_0 pe y9 (by omega) (by omega) (by omega), by omega, by omega⟩⟩)
        · have tg' := byt_1 (k' := fI fw97 a0 16) y102 (sm_y s105 (by omega)) (by omega)
          clear s105
          have tg := tg'.1.symm
          have bw := pkW_b (T := Tt) (p := z1_87) (q := fI fw97 a0 16) bT
          refine lv_aload_n hx hb dX10_next_111 rfl (lv_at hl 0 rfl) ?_
          refine lv_aload_n hx hb dX10_next_112 rfl (lv_at hl 0 rfl) ?_
          refine q_geti (ci := 8) (C := RX10) (T := TX10) (N := 26) hx hb hts (fun w h => List.mem_cons_of_mem _ (mfX100 w h)) hown hK hw hs.1 hs.2.1 rfl 16 (by decide) (hts _ (List.mem_cons_of_mem _ (mr19 _ (List.mem_of_getElem? (i := 3) rfl)))) (fun _ h => h) rfl dX10_next_113 (fun x_26 lx_26 ux_26 ex_26 => ?_)
          refine lv_iload_n hx hb dX10_next_116 rfl (lv_at hl 1 rfl) ?_
          first | refine q_isub hx hb dX10_next_117 ⟨by omega, by omega⟩ (fun x_27 lx_27 ux_27 ex_27 => ?_) | refine q_isubw hx hb dX10_next_117 (fun x_27 lx_27 ux_27 ex_27 => ?_)
          refine q_bipush hx hb dX10_next_118 rfl ?_
          have J145 : ∀ (w0_145 : Int) (lw0_145 : -9223372036854775808 ≤ w0_145) (uw0_145 : w0_145 ≤ 9223372036854775807) (k145 : w0_145 = pkW Tt z1_87 (fI fw97 a0 16 + 1)) (H : Heap) (locs : List Loc) (ls : Array Slot) (hw : Wd D A s.heap L0 fw97 H locs) (hl : lv_has ls 3 [(0, .ref a0), (1, .int (iI z1_87))]), W p l e ({ frames := 1, cells := 0, slots := 0, locals := 21 } : Room) s m ([.ref a0] : List Value).toArray below meth c H locs (0 + 0 + 0) (0 + 0 + 0) (MQ below (Qv D (tq cy) L0 f0 s.heap.size (fun (L1 : List Nat) (f1 : Nat → va_E) => L0 = L1 ∧ MS cy L0 f1 a0 ad ∧ Kp a0 ad [] [15, 16, 17, 18, 19] f0 f1 ∧ (NXP Tt nn f0 f1 a0))) ([.ref a0] : List Value).toArray s 0 0 A) (F0 m 145 ls [.long (lJ w0_145), .ref a0]) := by
            intro w0_145 lw0_145 uw0_145 k145 H locs ls hw hl
            have Q8 : aI fw97 (ad 8) = aI f0 (ad 8) := funext fun x => hE.1 8 rfl (by decide) x
            refine q_putl (ci := 8) (C := RX10) (T := TX10) (N := 26) hx hb hts (fun w h => List.mem_cons_of_mem _ (mfX100 w h)) hown hK hw hs.1 hs.2.1 rfl 18 (by decide) (hts _ (List.mem_cons_of_mem _ (mr19 _ (List.mem_of_getElem? (i := 10) rfl)))) (fun _ h => h) tyX10 tyX10_ok nmX10 rfl (ty := .long) (by decide +kernel) rfl rfl dX10_next_145 (fun H locs hw => ?_)
            obtain ⟨f_28, ef_28⟩ : ∃ g : Nat → va_E, g = pU fw97 a0 18 (.long (lJ w0_145)) := ⟨_, rfl⟩
            have v18_f_28 : fL f_28 a0 18 = w0_145 := by rw [ef_28]; exact fL_pU_self hs.2.1 rfl ⟨lw0_145, uw0_145⟩
            have t14_f_28 : fI f_28 a0 14 = fI fw97 a0 14 := by rw [ef_28]; exact fI_pU (Or.inr (by decide))
            have t15_f_28 : fI f_28 a0 15 = fI fw97 a0 15 := by rw [ef_28]; exact fI_pU (Or.inr (by decide))
            have t16_f_28 : fI f_28 a0 16 = fI fw97 a0 16 := by rw [ef_28]; exact fI_pU (Or.inr (by decide))
            have t17_f_28 : fI f_28 a0 17 = fI fw97 a0 17 := by rw [ef_28]; exact fI_pU (Or.inr (by decide))
            have t19_f_28 : fI f_28 a0 19 = fI fw97 a0 19 := by rw [ef_28]; exact fI_pU (Or.inr (by decide))
            have hE := hE.trans (show Kp a0 ad [] [15, 16, 17, 18, 19] fw97 f_28 by rw [ef_28]; exact Kp_pU hs (by decide))
            have hs : MS cy L0 f_28 a0 ad := by rw [ef_28]; exact MS_pL hs rfl
            rw [← ef_28] at hw
            have Q8 : aI f_28 (ad 8) = aI f0 (ad 8) := funext fun x => hE.1 8 rfl (by decide) x
            refine lv_aload_n hx hb dX10_next_148 rfl (lv_at hl 0 rfl) ?_
            refine lv_dup hx hb dX10_next_149 rfl ?_
            refine q_geti (ci := 8) (C := RX10) (T := TX10) (N := 26) hx hb hts (fun w h => List.mem_cons_of_mem _ (mfX100 w h)) hown hK hw hs.1 hs.2.1 rfl 16 (by decide) (hts _ (List.mem_cons_of_mem _ (mr19 _ (List.mem_of_getElem? (i := 3) rfl)))) (fun _ h => h) rfl dX10_next_150 (fun x_29 lx_29 ux_29 ex_29 => ?_)
            refine q_iconst hx hb dX10_next_153 ?_
            first | refine q_iadd hx hb dX10_next_154 ⟨by omega, by omega⟩ (fun x_30 lx_30 ux_30 ex_30 => ?_) | refine q_iaddw hx hb dX10_next_154 (fun x_30 lx_30 ux_30 ex_30 => ?_)
            refine q_puti (ci := 8) (C := RX10) (T := TX10) (N := 26) hx hb hts (fun w h => List.mem_cons_of_mem _ (mfX100 w h)) hown hK hw hs.1 hs.2.1 rfl 16 (by decide) (hts _ (List.mem_cons_of_mem _ (mr19 _ (List.mem_of_getElem? (i := 3) rfl)))) (fun _ h => h) tyX10 tyX10_ok nmX10 rfl (ty := .int) (by decide +kernel) rfl rfl dX10_next_155 (fun H locs hw => ?_)
            obtain ⟨f_31, ef_31⟩ : ∃ g : Nat → va_E, g = pU f_28 a0 16 (.int (iI x_30)) := ⟨_, rfl⟩
            have l18_f_31 : fL f_31 a0 18 = fL f_28 a0 18 := by rw [ef_31]; exact fL_pU (Or.inr (by decide))
            have v16_f_31 : fI f_31 a0 16 = x_30 := by rw [ef_31]; exact fI_pU_self hs.2.1 rfl ⟨lx_30, ux_30⟩
            have t14_f_31 : fI f_31 a0 14 = fI f_28 a0 14 := by rw [ef_31]; exact fI_pU (Or.inr (by decide))
            have t15_f_31 : fI f_31 a0 15 = fI f_28 a0 15 := by rw [ef_31]; exact fI_pU (Or.inr (by decide))
            have t17_f_31 : fI f_31 a0 17 = fI f_28 a0 17 := by rw [ef_31]; exact fI_pU (Or.inr (by decide))
            have t19_f_31 : fI f_31 a0 19 = fI f_28 a0 19 := by rw [ef_31]; exact fI_pU (Or.inr (by decide))
            have hE := hE.trans (show Kp a0 ad [] [15, 16, 17, 18, 19] f_28 f_31 by rw [ef_31]; exact Kp_pU hs (by decide))
            have hs : MS cy L0 f_31 a0 ad := by rw [ef_31]; exact MS_pU hs rfl
            rw [← ef_31] at hw
            have Q8 : aI f_31 (ad 8) = aI f0 (ad 8) := funext fun x => hE.1 8 rfl (by decide) x
            refine lv_goto (tgt := 97) hx hb dX10_next_158 (by decide) ?_
            exact ih97 L0 f_31 hs hE (by omega) (by omega) (by omega) (by omega) (by omega) (by first | exact rr | exact congrArg (rn Tt nn 1) (by omega) | exact rn_st rr (by omega) tg (by omega)) (by first | exact Eq.trans (by omega) (pkW_0 (by omega)).symm | exact pk_to (q := fI fw97 a0 16 + 1) (z := pkW Tt z1_87 (fI fw97 a0 16 + 1)) (by omega) ⟨rfl, by omega⟩) (by omega) _ _ _ hw (lv_sub hl [0, 1] rfl)
          refine q_icmp_ge (tgt := 144) hx hb dX10_next_120 (by decide) ⟨lx_27, ux_27⟩ ⟨by decide, by decide⟩ (fun c120 => ?_) (fun c120 => ?_)
          · refine q_lconst0 hx hb dX10_next_144 ?_
            exact J145 0 (by decide) (by decide) (by first | exact Eq.trans (by omega) (pkW_go (by omega) (by omega) rfl).symm | exact (pkW_big (by omega)).symm) _ _ _ hw (lv_sub hl [0, 1] rfl)
          · have bw6 := pkW_b6 (T := Tt) (p := z1_87) (q := fI fw97 a0 16) bT (by omega)
            refine q_ldc2 (n := 256) hx hb hown (hts _ (List.mem_cons_of_mem _ (mr19 _ (List.mem_of_getElem? (i := 12) rfl)))) rfl dX10_next_123 ?_
            refine lv_aload_n hx hb dX10_next_126 rfl (lv_at hl 0 rfl) ?_
            refine q_getlv (ci := 8) (C := RX10) (T := TX10) (N := 26) hx hb hts (fun w h => List.mem_cons_of_mem _ (mfX100 w h)) hown hK hw hs.1 hs.2.1 rfl 18 (by decide) (hts _ (List.mem_cons_of_mem _ (mr19 _ (List.mem_of_getElem? (i := 10) rfl)))) (fun _ h => h) rfl dX10_next_127 (fun j_32 lj_32 uj_32 ej_32 => ?_)
            first | refine q_lmul hx hb dX10_next_130 ⟨by omega, by omega⟩ (fun j_33 lj_33 uj_33 ej_33 => ?_) | refine q_lmulw hx hb dX10_next_130 (fun j_33 lj_33 uj_33 ej_33 => ?_)
            refine lv_aload_n hx hb dX10_next_131 rfl (lv_at hl 0 rfl) ?_
            refine lv_aload_n hx hb dX10_next_132 rfl (lv_at hl 0 rfl) ?_
            refine q_geti (ci := 8) (C := RX10) (T := TX10) (N := 26) hx hb hts (fun w h => List.mem_cons_of_mem _ (mfX100 w h)) hown hK hw hs.1 hs.2.1 rfl 16 (by decide) (hts _ (List.mem_cons_of_mem _ (mr19 _ (List.mem_of_getElem? (i := 3) rfl)))) (fun _ h => h) rfl dX10_next_133 (fun x_34 lx_34 ux_34 ex_34 => ?_)
            refine q_call_i hA hK hw (va_runV (As := [.int (iI x_34)]) (rest := [.long (lJ j_33), .ref a0]) ⟨hx, hb, hml, hown, hts⟩ (c_X10_byteAt zo l D cy L0 fw97 a0 x_34 lx_34 ux_34 ad hs (by omega) (by omega) _) (cwV 1 hts (gT (inV (mr19 _ (List.mem_of_getElem? (i := 13) rfl)) (mr19 _ (List.mem_of_getElem? (i := 14) rfl)) (mr19 _ (List.mem_of_getElem? (i := 15) rfl)) (mr1 _ (List.mem_of_getElem? (i := 5) rfl)) (mr19 _ (List.mem_of_getElem? (i := 16) rfl)))) rfl rfl rfl (by decide +kernel) ⟨Nat.le_of_ble_eq_true rfl, Nat.le_of_ble_eq_true rfl⟩) (Wd.preV zo hA hZ hw hK hs.1 hs.2.1 rfl) rfl rfl hl.1 rfl (lv_room (Nat.le_of_ble_eq_true rfl)) dX10_next_136 ⟨Nat.le_of_ble_eq_true rfl, Nat.le_of_ble_eq_true rfl⟩) (fun x_35 L1 f1 H locs lx_35 ux_35 ex_35 hw => ?_)
            obtain ⟨rfl, rfl, ex_35⟩ := ex_35
            have y136 : BYT Tt nn x_34 x_35 := by rcases ex_35 with q | q; (exact Or.inl ⟨by omega, q.1⟩); (exact Or.inr ⟨by omega, q.2.trans ((by first | exact rfl | exact congrFun Q8 _ : _ = aI f0 (ad 8) x_34).trans (hT x_34 (by omega) (by omega)))⟩)
            clear ex_35
            have v136 := byt_v (k' := fI fw97 a0 16) y136 (by omega) (by omega)
            have tb := (tyA_1 tg).2
            refine q_i2l hx hb dX10_next_139 ⟨lx_35, ux_35⟩ ?_
            obtain ⟨j_36, lj_36, uj_36, ej_36⟩ : ∃ z : Int, -9223372036854775808 ≤ z ∧ z ≤ 9223372036854775807 ∧ x_35 = z := ⟨x_35, by omega, by omega, rfl⟩
            rw [show (lJ x_35) = lJ j_36 from by rw [ej_36]]
            first | refine q_ladd hx hb dX10_next_140 ⟨by omega, by omega⟩ (fun j_37 lj_37 uj_37 ej_37 => ?_) | refine q_laddw hx hb dX10_next_140 (fun j_37 lj_37 uj_37 ej_37 => ?_)
            refine lv_goto (tgt := 145) hx hb dX10_next_141 (by decide) ?_
            exact J145 j_37 lj_37 uj_37 (by first | exact Eq.trans (by omega) (pkW_go (by omega) (by omega) rfl).symm | exact (pkW_big (by omega)).symm) _ _ _ hw (lv_sub hl [0, 1] rfl)
    exact J97 (((168 - fI f_22 a0 16).toNat) + 1) L0 f_22 hs hE (by omega) (by omega) (by omega) (by omega) (by omega) (by first | exact rr | exact congrArg (rn Tt nn 1) (by omega) | exact rn_st rr (by omega) tg (by omega)) (by first | exact Eq.trans (by omega) (pkW_0 (by omega)).symm | exact pk_to (q := fI fw97 a0 16 + 1) (z := pkW Tt z1_87 (fI fw97 a0 16 + 1)) (by omega) ⟨rfl, by omega⟩) (by omega) _ _ _ hw (lv_sub hl [0, 1] rfl)
  have J62 : ∀ (z1_62 : Int) (lz1_62 : -2147483648 ≤ z1_62) (uz1_62 : z1_62 ≤ 2147483647) (z2_62 : Int) (lz2_62 : -2147483648 ≤ z2_62) (uz2_62 : z2_62 ≤ 2147483647) (L : List Nat) (fw62 : Nat → va_E) (hs : MS cy L0 fw62 a0 ad) (hE : Kp a0 ad [] [15, 16, 17, 18, 19] f0 fw62) (c4 : fI f0 a0 20 ≤ 0) (pe : z1_62 = tP Tt nn (fI f0 a0 16)) (i5 : fI fw62 a0 14 = nn) (x15 : fI fw62 a0 15 = z1_62) (x16 : fI fw62 a0 16 = z1_62 + 1) (x17 : fI fw62 a0 17 = 3) (x18 : fL fw62 a0 18 = 0) (x19 : fI fw62 a0 19 = 0) (yc : BYT Tt nn z1_62 z2_62) (H : Heap) (locs : List Loc) (ls : Array Slot) (hw : Wd D A s.heap L0 fw62 H locs) (hl : lv_has ls 3 [(0, .ref a0), (1, .int (iI z1_62)), (2, .int (iI z2_62))]), W p l e ({ frames := 1, cells := 0, slots := 0, locals := 21 } : Room) s m ([.ref a0] : List Value).toArray below meth c H locs (0) (0) (MQ below (Qv D (tq cy) L0 f0 s.heap.size (fun (L1 : List Nat) (f1 : Nat → va_E) => L0 = L1 ∧ MS cy L0 f1 a0 ad ∧ Kp a0 ad [] [15, 16, 17, 18, 19] f0 f1 ∧ (NXP Tt nn f0 f1 a0))) ([.ref a0] : List Value).toArray s 0 0 A) (F0 m 62 ls []) := by
    intro z1_62 lz1_62 uz1_62 z2_62 lz2_62 uz2_62 L fw62 hs hE c4 pe i5 x15 x16 x17 x18 x19 yc H locs ls hw hl
    have Q8 : aI fw62 (ad 8) = aI f0 (ad 8) := funext fun x => hE.1 8 rfl (by decide) x
    refine lv_iload_n hx hb dX10_next_62 rfl (lv_at hl 2 rfl) ?_
    refine q_iconst hx hb dX10_next_63 ?_
    refine q_icmp_ne (tgt := 80) hx hb dX10_next_64 (by decide) ⟨lz2_62, uz2_62⟩ ⟨by decide, by decide⟩ (fun c64 => ?_) (fun c64 => ?_)
    · refine lv_iload_n hx hb dX10_next_80 rfl (lv_at hl 2 rfl) ?_
      refine q_call_i hA hK hw (va_runS (As := [.int (iI z2_62)]) (rest := []) ⟨hx, hb, hml, hown, hts⟩ (c_X10_isSmall zo l D cy L0 fw62 z2_62 lz2_62 uz2_62 _) (va_cwS 1 hts (gT (inS (mr19 _ (List.mem_of_getElem? (i := 17) rfl)) (mr19 _ (List.mem_of_getElem? (i := 18) rfl)) (mr1 _ (List.mem_of_getElem? (i := 5) rfl)) (mr19 _ (List.mem_of_getElem? (i := 19) rfl)))) rfl rfl rfl (by decide +kernel) ⟨Nat.le_of_ble_eq_true rfl, Nat.le_of_ble_eq_true rfl⟩) (Wd.preS zo hA hZ hw hK) rfl rfl hl.1 rfl (lv_room (Nat.le_of_ble_eq_true rfl)) dX10_next_81 ⟨Nat.le_of_ble_eq_true rfl, Nat.le_of_ble_eq_true rfl⟩) (fun x_38 L1 f1 H locs lx_38 ux_38 ex_38 hw => ?_)
      obtain ⟨rfl, rfl, ex_38⟩ := ex_38
      have s81 := ex_38
      clear ex_38
      refine q_if_eq (tgt := 161) hx hb dX10_next_84 (by decide) ⟨lx_38, ux_38⟩ (fun c84 => ?_) (fun c84 => ?_)
      · have sn := sm_n s81 (by omega)
        clear s81
        refine lv_iload_n hx hb dX10_next_161 rfl (lv_at hl 2 rfl) ?_
        refine q_call_i hA hK hw (va_runS (As := [.int (iI z2_62)]) (rest := []) ⟨hx, hb, hml, hown, hts⟩ (c_X10_isDigit zo l D cy L0 fw62 z2_62 lz2_62 uz2_62 _) (va_cwS 1 hts (gT (inS (mr19 _ (List.mem_of_getElem? (i := 20) rfl)) (mr19 _ (List.mem_of_getElem? (i := 21) rfl)) (mr1 _ (List.mem_of_getElem? (i := 5) rfl)) (mr19 _ (List.mem_of_getElem? (i := 22) rfl)))) rfl rfl rfl (by decide +kernel) ⟨Nat.le_of_ble_eq_true rfl, Nat.le_of_ble_eq_true rfl⟩) (Wd.preS zo hA hZ hw hK) rfl rfl hl.1 rfl (lv_room (Nat.le_of_ble_eq_true rfl)) dX10_next_162 ⟨Nat.le_of_ble_eq_true rfl, Nat.le_of_ble_eq_true rfl⟩) (fun x_39 L1 f1 H locs lx_39 ux_39 ex_39 hw => ?_)
        obtain ⟨rfl, rfl, ex_39⟩ := ex_39
        have s162 := ex_39
        clear ex_39
        refine q_if_eq (tgt := 252) hx hb dX10_next_165 (by decide) ⟨lx_39, ux_39⟩ (fun c165 => ?_) (fun c165 => ?_)
        · have ty := byt_3 yc ⟨by omega, sn, dg_n s162 (by omega)⟩
          clear s162 sn
          exact q_ret_v hx hb hr hlocks hK hAe hw (Nat.le_of_ble_eq_true rfl) (Nat.le_of_ble_eq_true rfl) dX10_next_252 (by first | exact ⟨rfl, hs, hE, Or.inr ⟨by omega, srr_3 pe ty.1 (by omega) (by omega), by omega, by omega⟩⟩ | exact ⟨rfl, hs, hE, Or.inr ⟨by omega, srr_1 pe ty x15 rfl x17 rr tn wk, by omega, by omega⟩⟩ | exact ⟨rfl, hs, hE, Or.inr ⟨by omega, srr_2 pe ty (by omega) t16_fw62 rr tn (by omega) (fun h => Eq.trans (by omega) (nvd_v nb h)), by omega, by omega⟩⟩ | exact ⟨rfl, hs, hE, Or.inr ⟨by omega, srr_0 pe y9 (by omega) (by omega) (by omega), by omega, by omega⟩⟩)
        · clear sn
          have ty := byt_2 yc (dg_y s162 (by omega)) rfl
          clear s162
          exact J168 z1_62 lz1_62 uz1_62 L0 fw62 hs hE (by omega) (by exact pe) (by omega) (by omega) (by omega) (by omega) (by exact ty.1) (by omega) _ _ _ hw (lv_sub hl [0, 1] rfl)
      · have ty := byt_1 yc (sm_y s81 (by omega)) rfl
        clear s81
        exact J87 z1_62 lz1_62 uz1_62 L0 fw62 hs hE (by omega) (by exact pe) (by omega) (by omega) (by omega) (by exact ty.1) (by omega) _ _ _ hw (lv_sub hl [0, 1] rfl)
    · have y9 := byt_0 yc bT (by omega)
      refine lv_aload_n hx hb dX10_next_67 rfl (lv_at hl 0 rfl) ?_
      refine q_iconst hx hb dX10_next_68 ?_
      refine q_puti (ci := 8) (C := RX10) (T := TX10) (N := 26) hx hb hts (fun w h => List.mem_cons_of_mem _ (mfX100 w h)) hown hK hw hs.1 hs.2.1 rfl 17 (by decide) (hts _ (List.mem_cons_of_mem _ (mr19 _ (List.mem_of_getElem? (i := 9) rfl)))) (fun _ h => h) tyX10 tyX10_ok nmX10 rfl (ty := .int) (by decide +kernel) rfl rfl dX10_next_69 (fun H locs hw => ?_)
      obtain ⟨f_40, ef_40⟩ : ∃ g : Nat → va_E, g = pU fw62 a0 17 (.int (iI 0)) := ⟨_, rfl⟩
      have l18_f_40 : fL f_40 a0 18 = fL fw62 a0 18 := by rw [ef_40]; exact fL_pU (Or.inr (by decide))
      have v17_f_40 : fI f_40 a0 17 = 0 := by rw [ef_40]; exact fI_pU_self hs.2.1 rfl ⟨by decide, by decide⟩
      have t14_f_40 : fI f_40 a0 14 = fI fw62 a0 14 := by rw [ef_40]; exact fI_pU (Or.inr (by decide))
      have t15_f_40 : fI f_40 a0 15 = fI fw62 a0 15 := by rw [ef_40]; exact fI_pU (Or.inr (by decide))
      have t16_f_40 : fI f_40 a0 16 = fI fw62 a0 16 := by rw [ef_40]; exact fI_pU (Or.inr (by decide))
      have t19_f_40 : fI f_40 a0 19 = fI fw62 a0 19 := by rw [ef_40]; exact fI_pU (Or.inr (by decide))
      have hE := hE.trans (show Kp a0 ad [] [15, 16, 17, 18, 19] fw62 f_40 by rw [ef_40]; exact Kp_pU hs (by decide))
      have hs : MS cy L0 f_40 a0 ad := by rw [ef_40]; exact MS_pU hs rfl
      rw [← ef_40] at hw
      have Q8 : aI f_40 (ad 8) = aI f0 (ad 8) := funext fun x => hE.1 8 rfl (by decide) x
      refine lv_aload_n hx hb dX10_next_72 rfl (lv_at hl 0 rfl) ?_
      refine lv_iload_n hx hb dX10_next_73 rfl (lv_at hl 1 rfl) ?_
      refine q_puti (ci := 8) (C := RX10) (T := TX10) (N := 26) hx hb hts (fun w h => List.mem_cons_of_mem _ (mfX100 w h)) hown hK hw hs.1 hs.2.1 rfl 16 (by decide) (hts _ (List.mem_cons_of_mem _ (mr19 _ (List.mem_of_getElem? (i := 3) rfl)))) (fun _ h => h) tyX10 tyX10_ok nmX10 rfl (ty := .int) (by decide +kernel) rfl rfl dX10_next_74 (fun H locs hw => ?_)
      obtain ⟨f_41, ef_41⟩ : ∃ g : Nat → va_E, g = pU f_40 a0 16 (.int (iI z1_62)) := ⟨_, rfl⟩
      have l18_f_41 : fL f_41 a0 18 = fL f_40 a0 18 := by rw [ef_41]; exact fL_pU (Or.inr (by decide))
      have v16_f_41 : fI f_41 a0 16 = z1_62 := by rw [ef_41]; exact fI_pU_self hs.2.1 rfl ⟨lz1_62, uz1_62⟩
      have t14_f_41 : fI f_41 a0 14 = fI f_40 a0 14 := by rw [ef_41]; exact fI_pU (Or.inr (by decide))
      have t15_f_41 : fI f_41 a0 15 = fI f_40 a0 15 := by rw [ef_41]; exact fI_pU (Or.inr (by decide))
      have t17_f_41 : fI f_41 a0 17 = fI f_40 a0 17 := by rw [ef_41]; exact fI_pU (Or.inr (by decide))
      have t19_f_41 : fI f_41 a0 19 = fI f_40 a0 19 := by rw [ef_41]; exact fI_pU (Or.inr (by decide))
      have hE := hE.trans (show Kp a0 ad [] [15, 16, 17, 18, 19] f_40 f_41 by rw [ef_41]; exact Kp_pU hs (by decide))
      have hs : MS cy L0 f_41 a0 ad := by rw [ef_41]; exact MS_pU hs rfl
      rw [← ef_41] at hw
      have Q8 : aI f_41 (ad 8) = aI f0 (ad 8) := funext fun x => hE.1 8 rfl (by decide) x
      refine lv_goto (tgt := 252) hx hb dX10_next_77 (by decide) ?_
      exact q_ret_v hx hb hr hlocks hK hAe hw (Nat.le_of_ble_eq_true rfl) (Nat.le_of_ble_eq_true rfl) dX10_next_252 (by first | exact ⟨rfl, hs, hE, Or.inr ⟨by omega, srr_3 pe ty.1 (by omega) (by omega), by omega, by omega⟩⟩ | exact ⟨rfl, hs, hE, Or.inr ⟨by omega, srr_1 pe ty x15 rfl x17 rr tn wk, by omega, by omega⟩⟩ | exact ⟨rfl, hs, hE, Or.inr ⟨by omega, srr_2 pe ty (by omega) t16_f_41 rr tn (by omega) (fun h => Eq.trans (by omega) (nvd_v nb h)), by omega, by omega⟩⟩ | exact ⟨rfl, hs, hE, Or.inr ⟨by omega, srr_0 pe y9 (by omega) (by omega) (by omega), by omega, by omega⟩⟩)
  have J29 : ∀ (z1_29 : Int) (lz1_29 : -2147483648 ≤ z1_29) (uz1_29 : z1_29 ≤ 2147483647) (L : List Nat) (fw29 : Nat → va_E) (hs : MS cy L0 fw29 a0 ad) (hE : Kp a0 ad [] [15, 16, 17, 18, 19] f0 fw29) (c4 : fI f0 a0 20 ≤ 0) (pe : z1_29 = tP Tt nn (fI f0 a0 16)) (i5 : fI fw29 a0 14 = nn) (H : Heap) (locs : List Loc) (ls : Array Slot) (hw : Wd D A s.heap L0 fw29 H locs) (hl : lv_has ls 3 [(0, .ref a0), (1, .int (iI z1_29))]), W p l e ({ frames := 1, cells := 0, slots := 0, locals := 21 } : Room) s m ([.ref a0] : List Value).toArray below meth c H locs (0) (0) (MQ below (Qv D (tq cy) L0 f0 s.heap.size (fun (L1 : List Nat) (f1 : Nat → va_E) => L0 = L1 ∧ MS cy L0 f1 a0 ad ∧ Kp a0 ad [] [15, 16, 17, 18, 19] f0 f1 ∧ (NXP Tt nn f0 f1 a0))) ([.ref a0] : List Value).toArray s 0 0 A) (F0 m 29 ls []) := by
    intro z1_29 lz1_29 uz1_29 L fw29 hs hE c4 pe i5 H locs ls hw hl
    have Q8 : aI fw29 (ad 8) = aI f0 (ad 8) := funext fun x => hE.1 8 rfl (by decide) x
    refine lv_aload_n hx hb dX10_next_29 rfl (lv_at hl 0 rfl) ?_
    refine lv_iload_n hx hb dX10_next_30 rfl (lv_at hl 1 rfl) ?_
    refine q_puti (ci := 8) (C := RX10) (T := TX10) (N := 26) hx hb hts (fun w h => List.mem_cons_of_mem _ (mfX100 w h)) hown hK hw hs.1 hs.2.1 rfl 15 (by decide) (hts _ (List.mem_cons_of_mem _ (mr19 _ (List.mem_of_getElem? (i := 8) rfl)))) (fun _ h => h) tyX10 tyX10_ok nmX10 rfl (ty := .int) (by decide +kernel) rfl rfl dX10_next_31 (fun H locs hw => ?_)
    obtain ⟨f_42, ef_42⟩ : ∃ g : Nat → va_E, g = pU fw29 a0 15 (.int (iI z1_29)) := ⟨_, rfl⟩
    have l18_f_42 : fL f_42 a0 18 = fL fw29 a0 18 := by rw [ef_42]; exact fL_pU (Or.inr (by decide))
    have v15_f_42 : fI f_42 a0 15 = z1_29 := by rw [ef_42]; exact fI_pU_self hs.2.1 rfl ⟨lz1_29, uz1_29⟩
    have t14_f_42 : fI f_42 a0 14 = fI fw29 a0 14 := by rw [ef_42]; exact fI_pU (Or.inr (by decide))
    have t16_f_42 : fI f_42 a0 16 = fI fw29 a0 16 := by rw [ef_42]; exact fI_pU (Or.inr (by decide))
    have t17_f_42 : fI f_42 a0 17 = fI fw29 a0 17 := by rw [ef_42]; exact fI_pU (Or.inr (by decide))
    have t19_f_42 : fI f_42 a0 19 = fI fw29 a0 19 := by rw [ef_42]; exact fI_pU (Or.inr (by decide))
    have hE := hE.trans (show Kp a0 ad [] [15, 16, 17, 18, 19] fw29 f_42 by rw [ef_42]; exact Kp_pU hs (by decide))
    have hs : MS cy L0 f_42 a0 ad := by rw [ef_42]; exact MS_pU hs rfl
    rw [← ef_42] at hw
    have Q8 : aI f_42 (ad 8) = aI f0 (ad 8) := funext fun x => hE.1 8 rfl (by decide) x
    refine lv_aload_n hx hb dX10_next_34 rfl (lv_at hl 0 rfl) ?_
    refine lv_iload_n hx hb dX10_next_35 rfl (lv_at hl 1 rfl) ?_
    refine q_iconst hx hb dX10_next_36 ?_
    first | refine q_iadd hx hb dX10_next_37 ⟨by omega, by omega⟩ (fun x_43 lx_43 ux_43 ex_43 => ?_) | refine q_iaddw hx hb dX10_next_37 (fun x_43 lx_43 ux_43 ex_43 => ?_)
    refine q_puti (ci := 8) (C := RX10) (T := TX10) (N := 26) hx hb hts (fun w h => List.mem_cons_of_mem _ (mfX100 w h)) hown hK hw hs.1 hs.2.1 rfl 16 (by decide) (hts _ (List.mem_cons_of_mem _ (mr19 _ (List.mem_of_getElem? (i := 3) rfl)))) (fun _ h => h) tyX10 tyX10_ok nmX10 rfl (ty := .int) (by decide +kernel) rfl rfl dX10_next_38 (fun H locs hw => ?_)
    obtain ⟨f_44, ef_44⟩ : ∃ g : Nat → va_E, g = pU f_42 a0 16 (.int (iI x_43)) := ⟨_, rfl⟩
    have l18_f_44 : fL f_44 a0 18 = fL f_42 a0 18 := by rw [ef_44]; exact fL_pU (Or.inr (by decide))
    have v16_f_44 : fI f_44 a0 16 = x_43 := by rw [ef_44]; exact fI_pU_self hs.2.1 rfl ⟨lx_43, ux_43⟩
    have t14_f_44 : fI f_44 a0 14 = fI f_42 a0 14 := by rw [ef_44]; exact fI_pU (Or.inr (by decide))
    have t15_f_44 : fI f_44 a0 15 = fI f_42 a0 15 := by rw [ef_44]; exact fI_pU (Or.inr (by decide))
    have t17_f_44 : fI f_44 a0 17 = fI f_42 a0 17 := by rw [ef_44]; exact fI_pU (Or.inr (by decide))
    have t19_f_44 : fI f_44 a0 19 = fI f_42 a0 19 := by rw [ef_44]; exact fI_pU (Or.inr (by decide))
    have hE := hE.trans (show Kp a0 ad [] [15, 16, 17, 18, 19] f_42 f_44 by rw [ef_44]; exact Kp_pU hs (by decide))
    have hs : MS cy L0 f_44 a0 ad := by rw [ef_44]; exact MS_pU hs rfl
    rw [← ef_44] at hw
    have Q8 : aI f_44 (ad 8) = aI f0 (ad 8) := funext fun x => hE.1 8 rfl (by decide) x
    refine lv_aload_n hx hb dX10_next_41 rfl (lv_at hl 0 rfl) ?_
    refine lv_iload_n hx hb dX10_next_42 rfl (lv_at hl 1 rfl) ?_
    refine q_call_i hA hK hw (va_runV (As := [.int (iI z1_29)]) (rest := []) ⟨hx, hb, hml, hown, hts⟩ (c_X10_byteAt zo l D cy L0 f_44 a0 z1_29 lz1_29 uz1_29 ad hs (by omega) (by omega) _) (cwV 1 hts (gT (inV (mr19 _ (List.mem_of_getElem? (i := 13) rfl)) (mr19 _ (List.mem_of_getElem? (i := 14) rfl)) (mr19 _ (List.mem_of_getElem? (i := 15) rfl)) (mr1 _ (List.mem_of_getElem? (i := 5) rfl)) (mr19 _ (List.mem_of_getElem? (i := 16) rfl)))) rfl rfl rfl (by decide +kernel) ⟨Nat.le_of_ble_eq_true rfl, Nat.le_of_ble_eq_true rfl⟩) (Wd.preV zo hA hZ hw hK hs.1 hs.2.1 rfl) rfl rfl hl.1 rfl (lv_room (Nat.le_of_ble_eq_true rfl)) dX10_next_43 ⟨Nat.le_of_ble_eq_true rfl, Nat.le_of_ble_eq_true rfl⟩) (fun x_45 L1 f1 H locs lx_45 ux_45 ex_45 hw => ?_)
    obtain ⟨rfl, rfl, ex_45⟩ := ex_45
    have y43 : BYT Tt nn z1_29 x_45 := by rcases ex_45 with q | q; (exact Or.inl ⟨by omega, q.1⟩); (exact Or.inr ⟨by omega, q.2.trans ((by first | exact rfl | exact congrFun Q8 _ : _ = aI f0 (ad 8) z1_29).trans (hT z1_29 (by omega) (by omega)))⟩)
    clear ex_45
    refine lv_istore_n (lv' := [(2, .int (iI x_45)), (0, .ref a0), (1, .int (iI z1_29))]) hx hb dX10_next_46 rfl hl (by decide) rfl (fun ls hl => ?_)
    refine lv_aload_n hx hb dX10_next_47 rfl (lv_at hl 1 rfl) ?_
    refine q_iconst hx hb dX10_next_48 ?_
    refine q_puti (ci := 8) (C := RX10) (T := TX10) (N := 26) hx hb hts (fun w h => List.mem_cons_of_mem _ (mfX100 w h)) hown hK hw hs.1 hs.2.1 rfl 17 (by decide) (hts _ (List.mem_cons_of_mem _ (mr19 _ (List.mem_of_getElem? (i := 9) rfl)))) (fun _ h => h) tyX10 tyX10_ok nmX10 rfl (ty := .int) (by decide +kernel) rfl rfl dX10_next_49 (fun H locs hw => ?_)
    obtain ⟨f_46, ef_46⟩ : ∃ g : Nat → va_E, g = pU f_44 a0 17 (.int (iI 3)) := ⟨_, rfl⟩
    have l18_f_46 : fL f_46 a0 18 = fL f_44 a0 18 := by rw [ef_46]; exact fL_pU (Or.inr (by decide))
    have v17_f_46 : fI f_46 a0 17 = 3 := by rw [ef_46]; exact fI_pU_self hs.2.1 rfl ⟨by decide, by decide⟩
    have t14_f_46 : fI f_46 a0 14 = fI f_44 a0 14 := by rw [ef_46]; exact fI_pU (Or.inr (by decide))
    have t15_f_46 : fI f_46 a0 15 = fI f_44 a0 15 := by rw [ef_46]; exact fI_pU (Or.inr (by decide))
    have t16_f_46 : fI f_46 a0 16 = fI f_44 a0 16 := by rw [ef_46]; exact fI_pU (Or.inr (by decide))
    have t19_f_46 : fI f_46 a0 19 = fI f_44 a0 19 := by rw [ef_46]; exact fI_pU (Or.inr (by decide))
    have hE := hE.trans (show Kp a0 ad [] [15, 16, 17, 18, 19] f_44 f_46 by rw [ef_46]; exact Kp_pU hs (by decide))
    have hs : MS cy L0 f_46 a0 ad := by rw [ef_46]; exact MS_pU hs rfl
    rw [← ef_46] at hw
    have Q8 : aI f_46 (ad 8) = aI f0 (ad 8) := funext fun x => hE.1 8 rfl (by decide) x
    refine lv_aload_n hx hb dX10_next_52 rfl (lv_at hl 1 rfl) ?_
    refine q_lconst0 hx hb dX10_next_53 ?_
    refine q_putl (ci := 8) (C := RX10) (T := TX10) (N := 26) hx hb hts (fun w h => List.mem_cons_of_mem _ (mfX100 w h)) hown hK hw hs.1 hs.2.1 rfl 18 (by decide) (hts _ (List.mem_cons_of_mem _ (mr19 _ (List.mem_of_getElem? (i := 10) rfl)))) (fun _ h => h) tyX10 tyX10_ok nmX10 rfl (ty := .long) (by decide +kernel) rfl rfl dX10_next_54 (fun H locs hw => ?_)
    obtain ⟨f_47, ef_47⟩ : ∃ g : Nat → va_E, g = pU f_46 a0 18 (.long (lJ 0)) := ⟨_, rfl⟩
    have v18_f_47 : fL f_47 a0 18 = 0 := by rw [ef_47]; exact fL_pU_self hs.2.1 rfl ⟨by decide, by decide⟩
    have t14_f_47 : fI f_47 a0 14 = fI f_46 a0 14 := by rw [ef_47]; exact fI_pU (Or.inr (by decide))
    have t15_f_47 : fI f_47 a0 15 = fI f_46 a0 15 := by rw [ef_47]; exact fI_pU (Or.inr (by decide))
    have t16_f_47 : fI f_47 a0 16 = fI f_46 a0 16 := by rw [ef_47]; exact fI_pU (Or.inr (by decide))
    have t17_f_47 : fI f_47 a0 17 = fI f_46 a0 17 := by rw [ef_47]; exact fI_pU (Or.inr (by decide))
    have t19_f_47 : fI f_47 a0 19 = fI f_46 a0 19 := by rw [ef_47]; exact fI_pU (Or.inr (by decide))
    have hE := hE.trans (show Kp a0 ad [] [15, 16, 17, 18, 19] f_46 f_47 by rw [ef_47]; exact Kp_pU hs (by decide))
    have hs : MS cy L0 f_47 a0 ad := by rw [ef_47]; exact MS_pL hs rfl
    rw [← ef_47] at hw
    have Q8 : aI f_47 (ad 8) = aI f0 (ad 8) := funext fun x => hE.1 8 rfl (by decide) x
    refine lv_aload_n hx hb dX10_next_57 rfl (lv_at hl 1 rfl) ?_
    refine q_iconst hx hb dX10_next_58 ?_
    refine q_puti (ci := 8) (C := RX10) (T := TX10) (N := 26) hx hb hts (fun w h => List.mem_cons_of_mem _ (mfX100 w h)) hown hK hw hs.1 hs.2.1 rfl 19 (by decide) (hts _ (List.mem_cons_of_mem _ (mr19 _ (List.mem_of_getElem? (i := 11) rfl)))) (fun _ h => h) tyX10 tyX10_ok nmX10 rfl (ty := .int) (by decide +kernel) rfl rfl dX10_next_59 (fun H locs hw => ?_)
    obtain ⟨f_48, ef_48⟩ : ∃ g : Nat → va_E, g = pU f_47 a0 19 (.int (iI 0)) := ⟨_, rfl⟩
    have l18_f_48 : fL f_48 a0 18 = fL f_47 a0 18 := by rw [ef_48]; exact fL_pU (Or.inr (by decide))
    have v19_f_48 : fI f_48 a0 19 = 0 := by rw [ef_48]; exact fI_pU_self hs.2.1 rfl ⟨by decide, by decide⟩
    have t14_f_48 : fI f_48 a0 14 = fI f_47 a0 14 := by rw [ef_48]; exact fI_pU (Or.inr (by decide))
    have t15_f_48 : fI f_48 a0 15 = fI f_47 a0 15 := by rw [ef_48]; exact fI_pU (Or.inr (by decide))
    have t16_f_48 : fI f_48 a0 16 = fI f_47 a0 16 := by rw [ef_48]; exact fI_pU (Or.inr (by decide))
    have t17_f_48 : fI f_48 a0 17 = fI f_47 a0 17 := by rw [ef_48]; exact fI_pU (Or.inr (by decide))
    have hE := hE.trans (show Kp a0 ad [] [15, 16, 17, 18, 19] f_47 f_48 by rw [ef_48]; exact Kp_pU hs (by decide))
    have hs : MS cy L0 f_48 a0 ad := by rw [ef_48]; exact MS_pU hs rfl
    rw [← ef_48] at hw
    have Q8 : aI f_48 (ad 8) = aI f0 (ad 8) := funext fun x => hE.1 8 rfl (by decide) x
    exact J62 z1_29 lz1_29 uz1_29 x_45 lx_45 ux_45 L0 f_48 hs hE (by omega) (by exact pe) (by omega) (by omega) (by omega) (by omega) (by omega) (by omega) (by exact y43) _ _ _ hw (lv_sub hl [1, 2, 0] rfl)
  refine lv_aload_n hx hb dX10_next_0 rfl (lv_at hl 0 rfl) ?_
  refine q_geti (ci := 8) (C := RX10) (T := TX10) (N := 26) hx hb hts (fun w h => List.mem_cons_of_mem _ (mfX100 w h)) hown hK hw hs.1 hs.2.1 rfl 20 (by decide) (hts _ (List.mem_cons_of_mem _ (mr19 _ (List.mem_of_getElem? (i := 2) rfl)))) (fun _ h => h) rfl dX10_next_1 (fun x_49 lx_49 ux_49 ex_49 => ?_)
  refine q_if_le (tgt := 8) hx hb dX10_next_4 (by decide) ⟨lx_49, ux_49⟩ (fun c4 => ?_) (fun c4 => ?_)
  · refine lv_aload_n hx hb dX10_next_8 rfl (lv_at hl 0 rfl) ?_
    refine q_geti (ci := 8) (C := RX10) (T := TX10) (N := 26) hx hb hts (fun w h => List.mem_cons_of_mem _ (mfX100 w h)) hown hK hw hs.1 hs.2.1 rfl 16 (by decide) (hts _ (List.mem_cons_of_mem _ (mr19 _ (List.mem_of_getElem? (i := 3) rfl)))) (fun _ h => h) rfl dX10_next_9 (fun x_50 lx_50 ux_50 ex_50 => ?_)
    refine lv_istore_n (lv' := [(1, .int (iI x_50)), (0, .ref a0)]) hx hb dX10_next_12 rfl hl (by decide) rfl (fun ls hl => ?_)
    have J13 : ∀ (n13 : Nat) (y1_13 : Int) (ly1_13 : -2147483648 ≤ y1_13) (uy1_13 : y1_13 ≤ 2147483647) (i0 : fI f0 a0 16 ≤ y1_13) (i1 : y1_13 ≤ nn) (p0 : tP Tt nn (fI f0 a0 16) = tP Tt nn y1_13) (hn13 : ((2147483647 : Int) - y1_13).toNat < n13) (H : Heap) (locs : List Loc) (ls : Array Slot) (hw : Wd D A s.heap L0 f0 H locs) (hl : lv_has ls 3 [(0, .ref a0), (1, .int (iI y1_13))]), W p l e ({ frames := 1, cells := 0, slots := 0, locals := 21 } : Room) s m ([.ref a0] : List Value).toArray below meth c H locs (0) (0) (MQ below (Qv D (tq cy) L0 f0 s.heap.size (fun (L1 : List Nat) (f1 : Nat → va_E) => L0 = L1 ∧ MS cy L0 f1 a0 ad ∧ Kp a0 ad [] [15, 16, 17, 18, 19] f0 f1 ∧ (NXP Tt nn f0 f1 a0))) ([.ref a0] : List Value).toArray s 0 0 A) (F0 m 13 ls []) := by
      intro n13
      induction n13 with
      | zero => intro y1_13 ly1_13 uy1_13 i0 i1 p0 hn13; exact absurd hn13 (Nat.not_lt_zero _)
      | succ n13 ih13 =>
        intro y1_13 ly1_13 uy1_13 i0 i1 p0 hn13 H locs ls hw hl
        refine lv_aload_n hx hb dX10_next_13 rfl (lv_at hl 0 rfl) ?_
        refine lv_iload_n hx hb dX10_next_14 rfl (lv_at hl 1 rfl) ?_
        refine q_call_i hA hK hw (va_runV (As := [.int (iI y1_13)]) (rest := []) ⟨hx, hb, hml, hown, hts⟩ (c_X10_byteAt zo l D cy L0 f0 a0 y1_13 ly1_13 uy1_13 ad hs (by omega) (by omega) _) (cwV 1 hts (gT (inV (mr19 _ (List.mem_of_getElem? (i := 13) rfl)) (mr19 _ (List.mem_of_getElem? (i := 14) rfl)) (mr19 _ (List.mem_of_getElem? (i := 15) rfl)) (mr1 _ (List.mem_of_getElem? (i := 5) rfl)) (mr19 _ (List.mem_of_getElem? (i := 16) rfl)))) rfl rfl rfl (by decide +kernel) ⟨Nat.le_of_ble_eq_true rfl, Nat.le_of_ble_eq_true rfl⟩) (Wd.preV zo hA hZ hw hK hs.1 hs.2.1 rfl) rfl rfl hl.1 rfl (lv_room (Nat.le_of_ble_eq_true rfl)) dX10_next_15 ⟨Nat.le_of_ble_eq_true rfl, Nat.le_of_ble_eq_true rfl⟩) (fun x_51 L1 f1 H locs lx_51 ux_51 ex_51 hw => ?_)
        obtain ⟨rfl, rfl, ex_51⟩ := ex_51
        have y15 : BYT Tt nn y1_13 x_51 := by rcases ex_51 with q | q; (exact Or.inl ⟨by omega, q.1⟩); (exact Or.inr ⟨by omega, q.2.trans ((by first | exact rfl | exact congrFun Q8 _ : _ = aI f0 (ad 8) y1_13).trans (hT y1_13 (by omega) (by omega)))⟩)
        clear ex_51
        refine q_bipush hx hb dX10_next_18 rfl ?_
        refine q_icmp_ne (tgt := 29) hx hb dX10_next_20 (by decide) ⟨lx_51, ux_51⟩ ⟨by decide, by decide⟩ (fun c20 => ?_) (fun c20 => ?_)
        · have pe : y1_13 = tP Tt nn (fI f0 a0 16) := tP_of p0 (byt_ns y15 (by omega))
          clear y15
          exact J29 y1_13 ly1_13 uy1_13 L0 f0 hs hE (by omega) (by exact pe) (by omega) _ _ _ hw (lv_sub hl [0, 1] rfl)
        · have y9 := byt_sp y15 (by omega)
          clear y15
          obtain ⟨x_52, lx_52, ux_52, hx_52, ex_52⟩ := q_inc y1_13 (1)
          try (replace ex_52 : x_52 = y1_13 + (1) := by omega)
          refine lv_iinc (v := iI x_52) (lv' := [(1, .int (iI x_52)), (0, .ref a0)]) hx hb dX10_next_23 hl (k := 1) rfl hx_52 (by decide) rfl (fun ls hl => ?_)
          refine lv_goto (tgt := 13) hx hb dX10_next_26 (by decide) ?_
          exact ih13 x_52 lx_52 ux_52 (by omega) (by omega) (by first | exact congrArg (tP Tt nn) (by omega) | exact tP_st p0 y9.1 y9.2 (by omega)) (by omega) _ _ _ hw (lv_sub hl [1, 0] rfl)
    exact J13 ((((2147483647 : Int) - x_50).toNat) + 1) x_50 lx_50 ux_50 (by omega) (by omega) (by first | exact congrArg (tP Tt nn) (by omega) | exact tP_st p0 y9.1 y9.2 (by omega)) (by omega) _ _ _ hw (lv_sub hl [1, 0] rfl)
  · exact q_ret_v hx hb hr hlocks hK hAe hw (Nat.le_of_ble_eq_true rfl) (Nat.le_of_ble_eq_true rfl) dX10_next_7 (by exact ⟨rfl, hs, hE, Or.inl ⟨by omega, rfl⟩⟩)
