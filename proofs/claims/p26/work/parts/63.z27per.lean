/-! ===== periods ===== -/
def gc (a b : Int) : Int := ((Nat.gcd a.toNat b.toNat : Nat) : Int)
theorem gc_nn (a b : Int) : 0 ≤ gc a b := Int.natCast_nonneg _
theorem gc_step {a b : Int} (a0 : 0 ≤ a) (b0 : 0 < b) : gc b (a % b) = gc a b := by
  obtain ⟨m, rfl⟩ := Int.eq_ofNat_of_zero_le a0
  obtain ⟨n, rfl⟩ := Int.eq_ofNat_of_zero_le (Int.le_of_lt b0)
  show ((Nat.gcd n (m % n) : Nat) : Int) = ((Nat.gcd m n : Nat) : Int)
  rw [Nat.gcd_comm m n, Nat.gcd_rec n m, Nat.gcd_comm n (m % n)]
theorem gc_0 {a : Int} (a0 : 0 ≤ a) : gc a 0 = a := by
  obtain ⟨m, rfl⟩ := Int.eq_ofNat_of_zero_le a0
  show ((Nat.gcd m 0 : Nat) : Int) = (m : Int)
  rw [Nat.gcd_zero_right]
theorem gc_pos {a b : Int} (a0 : 0 < a) : 0 < gc a b := by
  have h : 0 < Nat.gcd a.toNat b.toNat := Nat.gcd_pos_of_pos_left _ (by omega)
  unfold gc
  omega
theorem gc_pos2 {a b : Int} (b0 : 0 < b) : 0 < gc a b := by
  have h : 0 < Nat.gcd a.toNat b.toNat := Nat.gcd_pos_of_pos_right _ (by omega)
  unfold gc
  omega
/-- Euclid's steps are few -/
def EuB (j0 j2 a b i : Int) : Prop := 0 ≤ a ∧ 0 ≤ b ∧ gc a b = gc j0 j2 ∧ ((i = 0 ∧ a = j0 ∧ b = j2) ∨ (1 ≤ i ∧ b < a ∧ a * b * 2 ^ (i.toNat - 1) ≤ 1208925819614629174706176))
theorem eub_0 {j0 j2 : Int} (h0 : 0 ≤ j0) (h2 : 0 ≤ j2) : EuB j0 j2 j0 j2 0 := ⟨h0, h2, rfl, Or.inl ⟨rfl, rfl, rfl⟩⟩
theorem eub_step {j0 j2 a b i r i' : Int} (h : EuB j0 j2 a b i) (b0 : 0 < b) (h0 : j0 ≤ 1099511627776) (h2 : j2 ≤ 1099511627776) (er : r = a % b) (ei : i' = i + 1) : EuB j0 j2 b r i' := by
  obtain ⟨a1, b1, g, c⟩ := h
  have r0 : 0 ≤ r := by rw [er]; exact Int.emod_nonneg _ (by omega)
  have r1 : r < b := by rw [er]; exact Int.emod_lt_of_pos _ b0
  refine ⟨b1, r0, by rw [er, gc_step a1 b0]; exact g, Or.inr ⟨by omega, r1, ?_⟩⟩
  rcases c with ⟨c1, c2, c3⟩ | ⟨c1, c2, c3⟩
  · rw [show i'.toNat - 1 = 0 by omega, Int.pow_zero, Int.mul_one]
    have k := Int.mul_le_mul (show b ≤ 1099511627776 by omega) (show r ≤ 1099511627776 by omega) r0 (by decide)
    have e : (1099511627776 : Int) * 1099511627776 = 1208925819614629174706176 := by decide +kernel
    omega
  · have q : 2 * r ≤ a := by
      have d := Int.mul_ediv_add_emod a b
      have p : 1 ≤ a / b := by
        have := Int.le_ediv_of_mul_le b0 (show 1 * b ≤ a by omega)
        exact this
      have k := Int.mul_le_mul_of_nonneg_left p b1
      rw [Int.mul_one] at k
      omega
    have k1 : b * (2 * r) ≤ b * a := Int.mul_le_mul_of_nonneg_left q b1
    have e1 : i'.toNat - 1 = (i.toNat - 1) + 1 := by omega
    have e2 : b * r * 2 ^ (i'.toNat - 1) = b * (2 * r) * 2 ^ (i.toNat - 1) := by
      rw [e1, Int.pow_succ, show b * (2 * r) = b * r * 2 by rw [Int.mul_comm 2 r, ← Int.mul_assoc]]
      rw [Int.mul_assoc (b * r) 2, Int.mul_comm 2]
    rw [e2]
    have p0 : (0 : Int) ≤ 2 ^ (i.toNat - 1) := Int.le_of_lt (Int.pow_pos (by decide))
    have k2 := Int.mul_le_mul_of_nonneg_right k1 p0
    rw [Int.mul_comm b a] at k2
    omega
theorem eub_end {j0 j2 a b i : Int} (h : EuB j0 j2 a b i) (q : 100 ≤ i ∨ b = 0) (i1 : i ≤ 100) : a = gc j0 j2 := by
  obtain ⟨a1, b1, g, c⟩ := h
  have z : b = 0 := by
    rcases q with q | q
    · rcases c with ⟨c1, c2, c3⟩ | ⟨c1, c2, c3⟩
      · omega
      · rw [show i.toNat - 1 = 99 by omega, show (2 : Int) ^ 99 = 633825300114114700748351602688 by decide +kernel] at c3
        rcases Int.lt_or_le 0 b with y | y
        · have t : 0 < a * b := Int.mul_pos (by omega) y
          generalize a * b = u at t c3
          omega
        · omega
    · exact q
  rw [z, gc_0 a1] at g
  exact g
def lcF (a b : Int) : Int := if a = 0 ∨ b = 0 then 0 else a / gc a b * b
theorem lc_z {a b : Int} (a0 : 0 ≤ a) (h : a = 0 ∨ b = 0 ∨ gc a b = 0) : 0 = lcF a b := by
  unfold lcF
  have k : a = 0 ∨ b = 0 := by
    rcases h with h | h | h
    · exact Or.inl h
    · exact Or.inr h
    · refine Or.inl ?_
      rcases Int.lt_or_le 0 a with y | y
      · have := gc_pos (b := b) y; omega
      · omega
  rw [if_pos k]
theorem lc_v {a b d z r : Int} (h1 : a ≠ 0) (h2 : b ≠ 0) (ed : d = gc a b) (ez : z = a / d) (er : r = z * b) : r = lcF a b := by
  unfold lcF
  rw [if_neg (by omega), er, ez, ed]
theorem lc_rg {a b z : Int} (z0 : 0 ≤ z) (z1 : z ≤ a) (a1 : a ≤ 1800000000) (b0 : 0 ≤ b) (b1 : b ≤ 1800000000) : 0 ≤ z * b ∧ z * b ≤ 3240000000000000000 := by
  have k := Int.mul_le_mul (show z ≤ 1800000000 by omega) b1 b0 (by decide)
  have e : (1800000000 : Int) * 1800000000 = 3240000000000000000 := by decide +kernel
  exact ⟨Int.mul_nonneg z0 b0, by omega⟩
theorem lc_nn {a b : Int} (a0 : 0 ≤ a) (b0 : 0 ≤ b) : 0 ≤ lcF a b := by
  unfold lcF
  split
  · exact Int.le_refl 0
  · exact Int.mul_nonneg (Int.ediv_nonneg a0 (gc_nn a b)) b0
theorem lc_48 {s x z : Int} (s1 : 1 ≤ s) (s2 : s ≤ 12000) (ex : x = lcF s 4800) (ez : z = x / 4800) : z = s / gc s 4800 ∧ 0 ≤ z ∧ z ≤ 12000 := by
  have e : lcF s 4800 = s / gc s 4800 * 4800 := by unfold lcF; rw [if_neg (by omega)]
  have q : z = s / gc s 4800 := by rw [ez, ex, e]; exact Int.mul_ediv_cancel _ (by decide)
  have n := Int.ediv_nonneg (show 0 ≤ s by omega) (gc_nn s 4800)
  have l := Int.ediv_le_self (gc s 4800) (show 0 ≤ s by omega)
  exact ⟨q, by omega, by omega⟩
def cyK (k n : Int) : Int := if k = 0 then 0 else if k = 1 then n else if k = 2 then 7 * n else if k = 7 then 146097 * (12 * n / gc (12 * n) 4800) else 146097 * (n / gc n 4800)
theorem cy_0 {k n : Int} (h : k = 0) : cyK k n = 0 := by unfold cyK; rw [if_pos h]
theorem cy_1 {k n : Int} (h : k = 1) : cyK k n = n := by unfold cyK; rw [if_neg (by omega), if_pos h]
theorem cy_2 {k n : Int} (h : k = 2) : cyK k n = 7 * n := by unfold cyK; rw [if_neg (by omega), if_neg (by omega), if_pos h]
theorem cy_7 {k n : Int} (h : k = 7) : cyK k n = 146097 * (12 * n / gc (12 * n) 4800) := by unfold cyK; rw [if_neg (by omega), if_neg (by omega), if_neg (by omega), if_pos h]
theorem cy_m {k n : Int} (h : 3 ≤ k) (h7 : k ≠ 7) : cyK k n = 146097 * (n / gc n 4800) := by unfold cyK; rw [if_neg (by omega), if_neg (by omega), if_neg (by omega), if_neg (by omega)]
theorem cy_st {k n s : Int} (h : 3 ≤ k) (e : s = stC k n) : cyK k n = 146097 * (s / gc s 4800) := by
  by_cases c : k = 7
  · rw [cy_7 c, e]; unfold stC; rw [if_pos c]
  · rw [cy_m h c, e]; unfold stC; rw [if_neg c]
theorem dv_b {n s : Int} (n0 : 0 ≤ n) (n1 : n ≤ 11988) : 0 ≤ n / gc n s ∧ n / gc n s ≤ 11988 := by
  have a := Int.ediv_nonneg n0 (gc_nn n s)
  have b := Int.ediv_le_self (gc n s) n0
  omega
theorem cy_b {k n : Int} (k0 : 0 ≤ k) (h : k = 0 ∨ (1 ≤ n ∧ n ≤ 999)) : 0 ≤ cyK k n ∧ cyK k n ≤ 1800000000 := by
  by_cases c0 : k = 0
  · rw [cy_0 c0]; omega
  · by_cases c1 : k = 1
    · rw [cy_1 c1]; omega
    · by_cases c2 : k = 2
      · rw [cy_2 c2]; omega
      · by_cases c7 : k = 7
        · rw [cy_7 c7]
          have b := dv_b (n := 12 * n) (s := 4800) (by omega) (by omega)
          generalize 12 * n / gc (12 * n) 4800 = z at b
          omega
        · rw [cy_m (by omega) c7]
          have b := dv_b (n := n) (s := 4800) (by omega) (by omega)
          generalize n / gc n 4800 = z at b
          omega
def asF (v : Int) : Int := if 2147483647 < v then -2 else v
theorem as_hi {v : Int} (h : 2147483647 < v) : -2 = asF v := by unfold asF; rw [if_pos h]
theorem as_lo {v r : Int} (h0 : 0 ≤ v) (h : v ≤ 2147483647) (e : r = (lJ v).toInt32.toInt) : r = asF v := by
  unfold asF
  rw [if_neg (by omega), e]
  have t : (lJ v).toInt32.toInt = (lJ v).toInt.bmod (2 ^ 32) := Int64.toInt_toInt32 _
  have u : (lJ v).toInt = v := lJ_toInt ⟨by omega, by omega⟩
  rw [t, u]
  exact Int.bmod_eq_of_le (by omega) (by omega)
theorem as_0 : (0 : Int) = asF 0 := by unfold asF; rw [if_neg (by decide)]
theorem RuK.c3 {f : Nat → va_E} {r : Nat} {k n s v w : Int} (h : RuK f r k n s v w) (o : Ob f r 3) : k = 0 := by
  rcases h.2 with ⟨o', e, _⟩ | ⟨o', _⟩ | ⟨o', _⟩ | ⟨o', _⟩
  · exact e
  · exact absurd (o.uniq o') (by decide)
  · exact absurd (o.uniq o') (by decide)
  · exact absurd (o.uniq o') (by decide)
theorem RuK.c1 {f : Nat → va_E} {r : Nat} {k n s v w : Int} (h : RuK f r k n s v w) (o : Ob f r 1) : k = 1 ∧ fI f r 3 = n ∧ 1 ≤ n ∧ n ≤ 999 := by
  rcases h.2 with ⟨o', _⟩ | ⟨o', e, n1, n2, _, _, e3⟩ | ⟨o', _⟩ | ⟨o', _⟩
  · exact absurd (o.uniq o') (by decide)
  · exact ⟨e, e3, n1, n2⟩
  · exact absurd (o.uniq o') (by decide)
  · exact absurd (o.uniq o') (by decide)
theorem RuK.c6 {f : Nat → va_E} {r : Nat} {k n s v w : Int} (h : RuK f r k n s v w) (o : Ob f r 6) : k = 2 ∧ fI f r 3 = n ∧ 1 ≤ n ∧ n ≤ 999 := by
  rcases h.2 with ⟨o', _⟩ | ⟨o', _⟩ | ⟨o', e, n1, n2, _, _, _, e3, _⟩ | ⟨o', _⟩
  · exact absurd (o.uniq o') (by decide)
  · exact absurd (o.uniq o') (by decide)
  · exact ⟨e, e3, n1, n2⟩
  · exact absurd (o.uniq o') (by decide)
theorem RuK.c2 {f : Nat → va_E} {r : Nat} {k n s v w : Int} (h : RuK f r k n s v w) (o : Ob f r 2) : 3 ≤ k ∧ fI f r 3 = stC k n ∧ 1 ≤ fI f r 3 ∧ fI f r 3 ≤ 12000 := by
  have b := h.months o
  rcases h.2 with ⟨o', _⟩ | ⟨o', _⟩ | ⟨o', _⟩ | ⟨o', ok, n1, n2, e3, _⟩
  · exact absurd (o.uniq o') (by decide)
  · exact absurd (o.uniq o') (by decide)
  · exact absurd (o.uniq o') (by decide)
  · exact ⟨by unfold okK at ok; omega, e3, b.2.2.2.1, b.2.2.2.2.1⟩
theorem period_eq {m r r' c c' : Int} {u : Int → Int} (e : (r = -1 ∧ (c < 0 ∨ m ≤ c)) ∨ (0 ≤ c ∧ c < m ∧ r = u c)) (q : (r' = -1 ∧ (c' < 0 ∨ m ≤ c')) ∨ (0 ≤ c' ∧ c' < m ∧ r' = u c')) (ec : c = c') : r = r' := by
  subst ec
  generalize u c = v at e q
  omega
theorem periodOf_eq {m r r' c c' d d' : Int} {u : Int → Int → Int} (e : (r = -1 ∧ ((c < 0 ∨ m ≤ c) ∨ (d < 0 ∨ m ≤ d))) ∨ (0 ≤ c ∧ c < m ∧ 0 ≤ d ∧ d < m ∧ r = u c d)) (q : (r' = -1 ∧ ((c' < 0 ∨ m ≤ c') ∨ (d' < 0 ∨ m ≤ d'))) ∨ (0 ≤ c' ∧ c' < m ∧ 0 ≤ d' ∧ d' < m ∧ r' = u c' d')) (ec : c = c') (ed : d = d') : r = r' := by
  subst ec
  subst ed
  generalize u c d = v at e q
  omega
theorem gc_end {a b c : Int} (a0 : 0 ≤ a) (i3 : gc a b = c) (z : b = 0) : a = c := by rw [z, gc_0 a0] at i3; exact i3
set_option maxHeartbeats 4000000 in
set_option maxRecDepth 100000 in
theorem c_X9_commonDivisor_f {Z : Zt} (zo : Zok Z) (l : Launch) (D : va_G) (cy : Cy) (L0 : List Nat) (f0 : Nat → va_E) (j0 : Int) (lj0 : -9223372036854775808 ≤ j0) (uj0 : j0 ≤ 9223372036854775807) (j2 : Int) (lj2 : -9223372036854775808 ≤ j2) (uj2 : j2 ≤ 9223372036854775807) (a1 : 0 ≤ j0) (a2 : 0 ≤ j2) (a3 : j0 ≤ 1099511627776) (a4 : j2 ≤ 1099511627776) : Cl Z l yX9_commonDivisor (Cond.code yX9_commonDivisor cX9_commonDivisor 11 (some .long) :: TB) ({ frames := 0, cells := 0, slots := 0, locals := 0 } : Room) 0 0 D (tq cy) [.long (lJ j0), .long (lJ j2)] L0 f0 (fun (r : Int) (L1 : List Nat) (f1 : Nat → va_E) => L0 = L1 ∧ f0 = f1 ∧ (r = gc j0 j2)) := by
  refine Cl.enter (cc := cX9_commonDivisor) (n := 11) rfl (plainFor_of_name (by decide)) (Nat.le_of_ble_eq_true rfl) ?_
  intro p e s m below meth c ls A hx hb hr hts hown hlocks hnm hml hK hA hAe hw hZ hl
  have hown : s.vm.findClass RX9 = some m.cls := hown
  have hl : lv_has ls 11 [(0, .long (lJ j0)), (2, .long (lJ j2))] := hl
  have hN : ZN s := (zo.2.2.2.2 _ _ _ hZ).2
  refine lv_lload_n hx hb dX9_commonDivisor_0 rfl (lv_at hl 0 rfl) ?_
  refine lv_lstore (lv' := [(4, .long (lJ j0)), (0, .long (lJ j0)), (2, .long (lJ j2))]) hx hb dX9_commonDivisor_1 hl (by decide) rfl (fun ls hl => ?_)
  refine lv_lload_n hx hb dX9_commonDivisor_3 rfl (lv_at hl 2 rfl) ?_
  refine lv_lstore (lv' := [(6, .long (lJ j2)), (4, .long (lJ j0)), (0, .long (lJ j0)), (2, .long (lJ j2))]) hx hb dX9_commonDivisor_4 hl (by decide) rfl (fun ls hl => ?_)
  refine q_iconst hx hb dX9_commonDivisor_6 ?_
  refine lv_istore (lv' := [(8, .int (iI 0)), (6, .long (lJ j2)), (4, .long (lJ j0)), (0, .long (lJ j0)), (2, .long (lJ j2))]) hx hb dX9_commonDivisor_7 hl (by decide) rfl (fun ls hl => ?_)
  have J9 : ∀ (n9 : Nat) (y4_9 : Int) (ly4_9 : -9223372036854775808 ≤ y4_9) (uy4_9 : y4_9 ≤ 9223372036854775807) (y6_9 : Int) (ly6_9 : -9223372036854775808 ≤ y6_9) (uy6_9 : y6_9 ≤ 9223372036854775807) (y8_9 : Int) (ly8_9 : -2147483648 ≤ y8_9) (uy8_9 : y8_9 ≤ 2147483647) (i0 : 0 ≤ y8_9) (i1 : y8_9 ≤ 100) (i2 : EuB j0 j2 y4_9 y6_9 y8_9) (hn9 : ((2147483647 : Int) - y8_9).toNat < n9) (H : Heap) (locs : List Loc) (ls : Array Slot) (hw : Wd D A s.heap L0 f0 H locs) (hl : lv_has ls 11 [(4, .long (lJ y4_9)), (6, .long (lJ y6_9)), (8, .int (iI y8_9))]), W p l e ({ frames := 0, cells := 0, slots := 0, locals := 0 } : Room) s m ([.long (lJ j0), .long (lJ j2)] : List Value).toArray below meth c H locs (0) (0) (MQ below (Ql D (tq cy) L0 f0 s.heap.size (fun (r : Int) (L1 : List Nat) (f1 : Nat → va_E) => L0 = L1 ∧ f0 = f1 ∧ (r = gc j0 j2))) ([.long (lJ j0), .long (lJ j2)] : List Value).toArray s 0 0 A) (F0 m 9 ls []) := by
    intro n9
    induction n9 with
    | zero => intro y4_9 ly4_9 uy4_9 y6_9 ly6_9 uy6_9 y8_9 ly8_9 uy8_9 i0 i1 i2 hn9; exact absurd hn9 (Nat.not_lt_zero _)
    | succ n9 ih9 =>
      intro y4_9 ly4_9 uy4_9 y6_9 ly6_9 uy6_9 y8_9 ly8_9 uy8_9 i0 i1 i2 hn9 H locs ls hw hl
      have b1 := i2.1
      have b2 := i2.2.1
      refine lv_iload hx hb dX9_commonDivisor_9 (lv_at hl 2 rfl) ?_
      refine q_bipush hx hb dX9_commonDivisor_11 rfl ?_
      refine q_icmp_ge (tgt := 44) hx hb dX9_commonDivisor_13 (by decide) ⟨ly8_9, uy8_9⟩ ⟨by decide, by decide⟩ (fun c13 => ?_) (fun c13 => ?_)
      · refine lv_lload hx hb dX9_commonDivisor_44 (lv_at hl 0 rfl) ?_
        exact q_ret_l hx hb hr hlocks hK hAe hw ⟨ly4_9, uy4_9⟩ (Nat.le_of_ble_eq_true rfl) (Nat.le_of_ble_eq_true rfl) dX9_commonDivisor_46 ⟨rfl, rfl, by exact eub_end i2 (by omega) (by omega)⟩
      · refine lv_lload hx hb dX9_commonDivisor_16 (lv_at hl 1 rfl) ?_
        refine q_lconst0 hx hb dX9_commonDivisor_18 ?_
        refine q_lcmp hx hb dX9_commonDivisor_19 ⟨ly6_9, uy6_9⟩ ⟨by decide, by decide⟩ (fun x_1 lx_1 ux_1 ex_1 => ?_)
        refine q_if_eq (tgt := 44) hx hb dX9_commonDivisor_20 (by decide) ⟨lx_1, ux_1⟩ (fun c20 => ?_) (fun c20 => ?_)
        · refine lv_lload hx hb dX9_commonDivisor_44 (lv_at hl 0 rfl) ?_
          exact q_ret_l hx hb hr hlocks hK hAe hw ⟨ly4_9, uy4_9⟩ (Nat.le_of_ble_eq_true rfl) (Nat.le_of_ble_eq_true rfl) dX9_commonDivisor_46 ⟨rfl, rfl, by exact eub_end i2 (by omega) (by omega)⟩
        · refine lv_lload hx hb dX9_commonDivisor_23 (lv_at hl 0 rfl) ?_
          refine lv_lload hx hb dX9_commonDivisor_25 (lv_at hl 1 rfl) ?_
          first | refine q_lrem hx hb dX9_commonDivisor_27 ⟨ly4_9, uy4_9⟩ ⟨ly6_9, uy6_9⟩ (by omega) (by omega) (fun j_2 lj_2 uj_2 ej_2 => ?_) | refine q_lremw hx hb dX9_commonDivisor_27 ⟨ly4_9, uy4_9⟩ ⟨ly6_9, uy6_9⟩ (by omega) (fun j_2 lj_2 uj_2 ej_2 => ?_)
          have h27 := ej_2.1
          refine lv_lstore (lv' := [(9, .long (lJ j_2)), (4, .long (lJ y4_9)), (6, .long (lJ y6_9)), (8, .int (iI y8_9))]) hx hb dX9_commonDivisor_28 hl (by decide) rfl (fun ls hl => ?_)
          refine lv_lload hx hb dX9_commonDivisor_30 (lv_at hl 2 rfl) ?_
          refine lv_lstore (lv' := [(4, .long (lJ y6_9)), (9, .long (lJ j_2)), (6, .long (lJ y6_9)), (8, .int (iI y8_9))]) hx hb dX9_commonDivisor_32 hl (by decide) rfl (fun ls hl => ?_)
          refine lv_lload hx hb dX9_commonDivisor_34 (lv_at hl 1 rfl) ?_
          refine lv_lstore (lv' := [(6, .long (lJ j_2)), (4, .long (lJ y6_9)), (9, .long (lJ j_2)), (8, .int (iI y8_9))]) hx hb dX9_commonDivisor_36 hl (by decide) rfl (fun ls hl => ?_)
          obtain ⟨x_3, lx_3, ux_3, hx_3, ex_3⟩ := q_inc y8_9 (1)
          try (replace ex_3 : x_3 = y8_9 + (1) := by omega)
          refine lv_iinc (v := iI x_3) (lv' := [(8, .int (iI x_3)), (6, .long (lJ j_2)), (4, .long (lJ y6_9)), (9, .long (lJ j_2))]) hx hb dX9_commonDivisor_38 hl (k := 3) rfl hx_3 (by decide) rfl (fun ls hl => ?_)
          refine lv_goto (tgt := 9) hx hb dX9_commonDivisor_41 (by decide) ?_
          exact ih9 y6_9 ly6_9 uy6_9 j_2 lj_2 uj_2 x_3 lx_3 ux_3 (by omega) (by omega) (by first | exact eub_0 a1 a2 | exact eub_step i2 (by omega) a3 a4 h27 (by omega) | fail "none") (by omega) _ _ _ hw (lv_sub hl [2, 1, 0] rfl)
  exact J9 ((((2147483647 : Int) - 0).toNat) + 1) j0 lj0 uj0 j2 lj2 uj2 0 (by decide) (by decide) (by omega) (by omega) (by first | exact eub_0 a1 a2 | exact eub_step i2 (by omega) a3 a4 h27 (by omega) | fail "none") (by omega) _ _ _ hw (lv_sub hl [2, 1, 0] rfl)
set_option maxHeartbeats 4000000 in
set_option maxRecDepth 100000 in
theorem c_X9_commonMultiple_f {Z : Zt} (zo : Zok Z) (l : Launch) (D : va_G) (cy : Cy) (L0 : List Nat) (f0 : Nat → va_E) (j0 : Int) (lj0 : -9223372036854775808 ≤ j0) (uj0 : j0 ≤ 9223372036854775807) (j2 : Int) (lj2 : -9223372036854775808 ≤ j2) (uj2 : j2 ≤ 9223372036854775807) (a1 : 0 ≤ j0) (a2 : 0 ≤ j2) (a3 : j0 ≤ 1800000000) (a4 : j2 ≤ 1800000000) : Cl Z l yX9_commonMultiple (Cond.code yX9_commonMultiple cX9_commonMultiple 6 (some .long) :: TB) ({ frames := 1, cells := 0, slots := 0, locals := 30 } : Room) 0 0 D (tq cy) [.long (lJ j0), .long (lJ j2)] L0 f0 (fun (r : Int) (L1 : List Nat) (f1 : Nat → va_E) => L0 = L1 ∧ f0 = f1 ∧ (r = lcF j0 j2)) := by
  refine Cl.enter (cc := cX9_commonMultiple) (n := 6) rfl (plainFor_of_name (by decide)) (Nat.le_of_ble_eq_true rfl) ?_
  intro p e s m below meth c ls A hx hb hr hts hown hlocks hnm hml hK hA hAe hw hZ hl
  have hown : s.vm.findClass RX9 = some m.cls := hown
  have hl : lv_has ls 6 [(0, .long (lJ j0)), (2, .long (lJ j2))] := hl
  have hN : ZN s := (zo.2.2.2.2 _ _ _ hZ).2
  have g0 := gc_nn j0 j2
  refine lv_lload_n hx hb dX9_commonMultiple_0 rfl (lv_at hl 0 rfl) ?_
  refine lv_lload_n hx hb dX9_commonMultiple_1 rfl (lv_at hl 1 rfl) ?_
  refine q_call_l hA hK hw (va_runS (As := [.long (lJ j0), .long (lJ j2)]) (rest := []) ⟨hx, hb, hml, hown, hts⟩ (c_X9_commonDivisor_f zo l D cy L0 f0 j0 lj0 uj0 j2 lj2 uj2 (by omega) (by omega) (by omega) (by omega) _) (va_cwS 2 hts (gT (inS (mr36 _ (List.mem_of_getElem? (i := 17) rfl)) (mr36 _ (List.mem_of_getElem? (i := 18) rfl)) (mr1 _ (List.mem_of_getElem? (i := 2) rfl)) (mr36 _ (List.mem_of_getElem? (i := 19) rfl)))) rfl rfl rfl (by decide +kernel) ⟨Nat.le_of_ble_eq_true rfl, Nat.le_of_ble_eq_true rfl⟩) (Wd.preS zo hA hZ hw hK) rfl rfl hl.1 rfl (lv_room (Nat.le_of_ble_eq_true rfl)) dX9_commonMultiple_2 ⟨Nat.le_of_ble_eq_true rfl, Nat.le_of_ble_eq_true rfl⟩) (fun x_1 L1 f1 H locs lx_1 ux_1 ex_1 hw => ?_)
  obtain ⟨rfl, rfl, ex_1⟩ := ex_1
  have gd := ex_1
  refine lv_lstore (lv' := [(4, .long (lJ x_1)), (0, .long (lJ j0)), (2, .long (lJ j2))]) hx hb dX9_commonMultiple_5 hl (by decide) rfl (fun ls hl => ?_)
  refine lv_lload_n hx hb dX9_commonMultiple_7 rfl (lv_at hl 1 rfl) ?_
  refine q_lconst0 hx hb dX9_commonMultiple_8 ?_
  refine q_lcmp hx hb dX9_commonMultiple_9 ⟨lj0, uj0⟩ ⟨by decide, by decide⟩ (fun x_2 lx_2 ux_2 ex_2 => ?_)
  refine q_if_eq (tgt := 26) hx hb dX9_commonMultiple_10 (by decide) ⟨lx_2, ux_2⟩ (fun c10 => ?_) (fun c10 => ?_)
  · refine q_lconst0 hx hb dX9_commonMultiple_26 ?_
    exact q_ret_l hx hb hr hlocks hK hAe hw ⟨by decide, by decide⟩ (Nat.le_of_ble_eq_true rfl) (Nat.le_of_ble_eq_true rfl) dX9_commonMultiple_27 ⟨rfl, rfl, by exact lc_z a1 (by omega)⟩
  · refine lv_lload_n hx hb dX9_commonMultiple_13 rfl (lv_at hl 2 rfl) ?_
    refine q_lconst0 hx hb dX9_commonMultiple_14 ?_
    refine q_lcmp hx hb dX9_commonMultiple_15 ⟨lj2, uj2⟩ ⟨by decide, by decide⟩ (fun x_3 lx_3 ux_3 ex_3 => ?_)
    refine q_if_eq (tgt := 26) hx hb dX9_commonMultiple_16 (by decide) ⟨lx_3, ux_3⟩ (fun c16 => ?_) (fun c16 => ?_)
    · refine q_lconst0 hx hb dX9_commonMultiple_26 ?_
      exact q_ret_l hx hb hr hlocks hK hAe hw ⟨by decide, by decide⟩ (Nat.le_of_ble_eq_true rfl) (Nat.le_of_ble_eq_true rfl) dX9_commonMultiple_27 ⟨rfl, rfl, by exact lc_z a1 (by omega)⟩
    · refine lv_lload hx hb dX9_commonMultiple_19 (lv_at hl 0 rfl) ?_
      refine q_lconst0 hx hb dX9_commonMultiple_21 ?_
      refine q_lcmp hx hb dX9_commonMultiple_22 ⟨lx_1, ux_1⟩ ⟨by decide, by decide⟩ (fun x_4 lx_4 ux_4 ex_4 => ?_)
      refine q_if_ne (tgt := 28) hx hb dX9_commonMultiple_23 (by decide) ⟨lx_4, ux_4⟩ (fun c23 => ?_) (fun c23 => ?_)
      · refine lv_lload_n hx hb dX9_commonMultiple_28 rfl (lv_at hl 1 rfl) ?_
        refine lv_lload hx hb dX9_commonMultiple_29 (lv_at hl 0 rfl) ?_
        first | refine q_ldiv hx hb dX9_commonMultiple_31 ⟨lj0, uj0⟩ ⟨lx_1, ux_1⟩ (by omega) (by omega) (fun j_5 lj_5 uj_5 ej_5 => ?_) | refine q_ldivw hx hb dX9_commonMultiple_31 ⟨lj0, uj0⟩ ⟨lx_1, ux_1⟩ (by omega) (fun j_5 lj_5 uj_5 ej_5 => ?_)
        have h31 := ej_5.1
        have hm := lc_rg (a := j0) (b := j2) (z := j_5) (by omega) (by omega) a3 a2 a4
        refine lv_lload_n hx hb dX9_commonMultiple_32 rfl (lv_at hl 2 rfl) ?_
        first | refine q_lmul hx hb dX9_commonMultiple_33 ⟨by omega, by omega⟩ (fun j_6 lj_6 uj_6 ej_6 => ?_) | refine q_lmulw hx hb dX9_commonMultiple_33 (fun j_6 lj_6 uj_6 ej_6 => ?_)
        have h33 := ej_6
        exact q_ret_l hx hb hr hlocks hK hAe hw ⟨lj_6, uj_6⟩ (Nat.le_of_ble_eq_true rfl) (Nat.le_of_ble_eq_true rfl) dX9_commonMultiple_34 ⟨rfl, rfl, by exact lc_v (by omega) (by omega) gd h31 h33⟩
      · refine q_lconst0 hx hb dX9_commonMultiple_26 ?_
        exact q_ret_l hx hb hr hlocks hK hAe hw ⟨by decide, by decide⟩ (Nat.le_of_ble_eq_true rfl) (Nat.le_of_ble_eq_true rfl) dX9_commonMultiple_27 ⟨rfl, rfl, by exact lc_z a1 (by omega)⟩
set_option maxHeartbeats 4000000 in
set_option maxRecDepth 100000 in
theorem c_X4_cycle_f {Z : Zt} (zo : Zok Z) (l : Launch) (D : va_G) (cy : Cy) (L0 : List Nat) (f0 : Nat → va_E) (a0 : Nat) (m_a0 : a0 ∈ L0) (o_a0 : Ob f0 a0 3) (hg : GI cy L0 f0) (kk : Int) (nn : Int) (ss : Int) (vv : Int) (ww : Int) (rk : RuK f0 a0 kk nn ss vv ww) : Cl Z l yX4_cycle (Cond.code yX4_cycle cX4_cycle 1 (some .long) :: TB) ({ frames := 0, cells := 0, slots := 0, locals := 0 } : Room) 0 0 D (tq cy) [.ref a0] L0 f0 (fun (r : Int) (L1 : List Nat) (f1 : Nat → va_E) => L0 = L1 ∧ f0 = f1 ∧ (r = cyK kk nn)) := by
  refine Cl.enter (cc := cX4_cycle) (n := 1) rfl (plainFor_of_name (by decide)) (Nat.le_of_ble_eq_true rfl) ?_
  intro p e s m below meth c ls A hx hb hr hts hown hlocks hnm hml hK hA hAe hw hZ hl
  have hown : s.vm.findClass RX4 = some m.cls := hown
  have hl : lv_has ls 1 [(0, .ref a0)] := hl
  have hN : ZN s := (zo.2.2.2.2 _ _ _ hZ).2
  have q3 := rk.c3 o_a0
  refine q_lconst0 hx hb dX4_cycle_0 ?_
  exact q_ret_l hx hb hr hlocks hK hAe hw ⟨by decide, by decide⟩ (Nat.le_of_ble_eq_true rfl) (Nat.le_of_ble_eq_true rfl) dX4_cycle_1 ⟨rfl, rfl, by exact (cy_0 q3).symm⟩
set_option maxHeartbeats 4000000 in
set_option maxRecDepth 100000 in
theorem c_X2_cycle_f {Z : Zt} (zo : Zok Z) (l : Launch) (D : va_G) (cy : Cy) (L0 : List Nat) (f0 : Nat → va_E) (a0 : Nat) (m_a0 : a0 ∈ L0) (o_a0 : Ob f0 a0 1) (hg : GI cy L0 f0) (kk : Int) (nn : Int) (ss : Int) (vv : Int) (ww : Int) (rk : RuK f0 a0 kk nn ss vv ww) : Cl Z l yX2_cycle (Cond.code yX2_cycle cX2_cycle 1 (some .long) :: TB) ({ frames := 0, cells := 0, slots := 0, locals := 0 } : Room) 0 0 D (tq cy) [.ref a0] L0 f0 (fun (r : Int) (L1 : List Nat) (f1 : Nat → va_E) => L0 = L1 ∧ f0 = f1 ∧ (r = cyK kk nn)) := by
  refine Cl.enter (cc := cX2_cycle) (n := 1) rfl (plainFor_of_name (by decide)) (Nat.le_of_ble_eq_true rfl) ?_
  intro p e s m below meth c ls A hx hb hr hts hown hlocks hnm hml hK hA hAe hw hZ hl
  have hown : s.vm.findClass RX2 = some m.cls := hown
  have hl : lv_has ls 1 [(0, .ref a0)] := hl
  have hN : ZN s := (zo.2.2.2.2 _ _ _ hZ).2
  have q1 := rk.c1 o_a0
  refine lv_aload_n hx hb dX2_cycle_0 rfl (lv_at hl 0 rfl) ?_
  refine q_geti (ci := 1) (C := RX2) (T := TX2) (N := 4) hx hb hts (fun w h => List.mem_cons_of_mem _ (mfX20 w h)) hown hK hw m_a0 o_a0 rfl 3 (by decide) (hts _ (List.mem_cons_of_mem _ (mr13 _ (List.mem_of_getElem? (i := 2) rfl)))) (fun _ h => h) rfl dX2_cycle_1 (fun x_1 lx_1 ux_1 ex_1 => ?_)
  have bx_1 : 1 ≤ x_1 := by rw [ex_1]; exact hg.1 _ m_a0 1 3 o_a0
  refine q_i2l hx hb dX2_cycle_4 ⟨lx_1, ux_1⟩ ?_
  obtain ⟨j_2, lj_2, uj_2, ej_2⟩ : ∃ z : Int, -9223372036854775808 ≤ z ∧ z ≤ 9223372036854775807 ∧ x_1 = z := ⟨x_1, by omega, by omega, rfl⟩
  rw [show (lJ x_1) = lJ j_2 from by rw [ej_2]]
  exact q_ret_l hx hb hr hlocks hK hAe hw ⟨lj_2, uj_2⟩ (Nat.le_of_ble_eq_true rfl) (Nat.le_of_ble_eq_true rfl) dX2_cycle_5 ⟨rfl, rfl, by rw [cy_1 q1.1]; omega⟩
set_option maxHeartbeats 4000000 in
set_option maxRecDepth 100000 in
theorem c_X8_cycle_f {Z : Zt} (zo : Zok Z) (l : Launch) (D : va_G) (cy : Cy) (L0 : List Nat) (f0 : Nat → va_E) (a0 : Nat) (m_a0 : a0 ∈ L0) (o_a0 : Ob f0 a0 6) (hg : GI cy L0 f0) (kk : Int) (nn : Int) (ss : Int) (vv : Int) (ww : Int) (rk : RuK f0 a0 kk nn ss vv ww) : Cl Z l yX8_cycle (Cond.code yX8_cycle cX8_cycle 1 (some .long) :: TB) ({ frames := 0, cells := 0, slots := 0, locals := 0 } : Room) 0 0 D (tq cy) [.ref a0] L0 f0 (fun (r : Int) (L1 : List Nat) (f1 : Nat → va_E) => L0 = L1 ∧ f0 = f1 ∧ (r = cyK kk nn)) := by
  refine Cl.enter (cc := cX8_cycle) (n := 1) rfl (plainFor_of_name (by decide)) (Nat.le_of_ble_eq_true rfl) ?_
  intro p e s m below meth c ls A hx hb hr hts hown hlocks hnm hml hK hA hAe hw hZ hl
  have hown : s.vm.findClass RX8 = some m.cls := hown
  have hl : lv_has ls 1 [(0, .ref a0)] := hl
  have hN : ZN s := (zo.2.2.2.2 _ _ _ hZ).2
  have q6 := rk.c6 o_a0
  refine q_ldc2 (n := 7) hx hb hown (hts _ (List.mem_cons_of_mem _ (mr37 _ (List.mem_of_getElem? (i := 2) rfl)))) rfl dX8_cycle_0 ?_
  refine lv_aload_n hx hb dX8_cycle_3 rfl (lv_at hl 0 rfl) ?_
  refine q_geti (ci := 6) (C := RX8) (T := TX8) (N := 6) hx hb hts (fun w h => List.mem_cons_of_mem _ (mfX80 w h)) hown hK hw m_a0 o_a0 rfl 3 (by decide) (hts _ (List.mem_cons_of_mem _ (mr13 _ (List.mem_of_getElem? (i := 8) rfl)))) (fun _ h => h) rfl dX8_cycle_4 (fun x_1 lx_1 ux_1 ex_1 => ?_)
  have bx_1 : 1 ≤ x_1 := by rw [ex_1]; exact hg.1 _ m_a0 6 3 o_a0
  refine q_i2l hx hb dX8_cycle_7 ⟨lx_1, ux_1⟩ ?_
  obtain ⟨j_2, lj_2, uj_2, ej_2⟩ : ∃ z : Int, -9223372036854775808 ≤ z ∧ z ≤ 9223372036854775807 ∧ x_1 = z := ⟨x_1, by omega, by omega, rfl⟩
  rw [show (lJ x_1) = lJ j_2 from by rw [ej_2]]
  first | refine q_lmul hx hb dX8_cycle_8 ⟨by omega, by omega⟩ (fun j_3 lj_3 uj_3 ej_3 => ?_) | refine q_lmulw hx hb dX8_cycle_8 (fun j_3 lj_3 uj_3 ej_3 => ?_)
  exact q_ret_l hx hb hr hlocks hK hAe hw ⟨lj_3, uj_3⟩ (Nat.le_of_ble_eq_true rfl) (Nat.le_of_ble_eq_true rfl) dX8_cycle_9 ⟨rfl, rfl, by rw [cy_2 q6.1]; omega⟩
set_option maxHeartbeats 4000000 in
set_option maxRecDepth 100000 in
theorem c_X3_cycle_f {Z : Zt} (zo : Zok Z) (l : Launch) (D : va_G) (cy : Cy) (L0 : List Nat) (f0 : Nat → va_E) (a0 : Nat) (m_a0 : a0 ∈ L0) (o_a0 : Ob f0 a0 2) (hg : GI cy L0 f0) (kk : Int) (nn : Int) (ss : Int) (vv : Int) (ww : Int) (rk : RuK f0 a0 kk nn ss vv ww) : Cl Z l yX3_cycle (Cond.code yX3_cycle cX3_cycle 1 (some .long) :: TB) ({ frames := 2, cells := 0, slots := 0, locals := 55 } : Room) 0 0 D (tq cy) [.ref a0] L0 f0 (fun (r : Int) (L1 : List Nat) (f1 : Nat → va_E) => L0 = L1 ∧ f0 = f1 ∧ (r = cyK kk nn)) := by
  refine Cl.enter (cc := cX3_cycle) (n := 1) rfl (plainFor_of_name (by decide)) (Nat.le_of_ble_eq_true rfl) ?_
  intro p e s m below meth c ls A hx hb hr hts hown hlocks hnm hml hK hA hAe hw hZ hl
  have hown : s.vm.findClass RX3 = some m.cls := hown
  have hl : lv_has ls 1 [(0, .ref a0)] := hl
  have hN : ZN s := (zo.2.2.2.2 _ _ _ hZ).2
  have q2 := rk.c2 o_a0
  refine q_ldc2 (n := 146097) hx hb hown (hts _ (List.mem_cons_of_mem _ (mr36 _ (List.mem_of_getElem? (i := 13) rfl)))) rfl dX3_cycle_0 ?_
  refine lv_aload_n hx hb dX3_cycle_3 rfl (lv_at hl 0 rfl) ?_
  refine q_geti (ci := 2) (C := RX3) (T := TX3) (N := 7) hx hb hts (fun w h => List.mem_cons_of_mem _ (mfX30 w h)) hown hK hw m_a0 o_a0 rfl 3 (by decide) (hts _ (List.mem_cons_of_mem _ (mr13 _ (List.mem_of_getElem? (i := 18) rfl)))) (fun _ h => h) rfl dX3_cycle_4 (fun x_1 lx_1 ux_1 ex_1 => ?_)
  have bx_1 : 1 ≤ x_1 ∧ x_1 ≤ 12000 := by rw [ex_1]; exact hg.1 _ m_a0 2 3 o_a0
  have h4 := ex_1
  refine q_i2l hx hb dX3_cycle_7 ⟨lx_1, ux_1⟩ ?_
  obtain ⟨j_2, lj_2, uj_2, ej_2⟩ : ∃ z : Int, -9223372036854775808 ≤ z ∧ z ≤ 9223372036854775807 ∧ x_1 = z := ⟨x_1, by omega, by omega, rfl⟩
  rw [show (lJ x_1) = lJ j_2 from by rw [ej_2]]
  have h7 := ej_2
  have h12 := lc_nn (a := j_2) (b := 4800) (by omega) (by decide)
  have h8 : j_2 = stC kk nn := by omega
  refine q_ldc2 (n := 4800) hx hb hown (hts _ (List.mem_cons_of_mem _ (mr36 _ (List.mem_of_getElem? (i := 14) rfl)))) rfl dX3_cycle_8 ?_
  refine q_call_l hA hK hw (va_runSN (As := [.long (lJ j_2), .long (lJ 4800)]) (rest := [.long (lJ 146097)]) ⟨hx, hb, hml, hown, hts⟩ (c_X9_commonMultiple_f zo l D cy L0 f0 j_2 lj_2 uj_2 4800 (by decide) (by decide) (by omega) (by omega) (by omega) (by omega) _) ⟨va_cnB 2 hts (gT (inC (mr36 _ (List.mem_of_getElem? (i := 16) rfl)))) rfl rfl rfl (hN _ (List.mem_of_getElem? (i := 14) rfl)) (hts _ (List.mem_cons_of_mem _ (mr1 _ (List.mem_of_getElem? (i := 2) rfl)))) (by decide +kernel) ⟨Nat.le_of_ble_eq_true rfl, Nat.le_of_ble_eq_true rfl⟩, (hts _ (List.mem_cons_of_mem _ (mr36 _ (List.mem_of_getElem? (i := 15) rfl)))), trivial⟩ (Wd.preS zo hA hZ hw hK) rfl rfl hl.1 rfl (lv_room (Nat.le_of_ble_eq_true rfl)) dX3_cycle_11 ⟨Nat.le_of_ble_eq_true rfl, Nat.le_of_ble_eq_true rfl⟩) (fun x_3 L1 f1 H locs lx_3 ux_3 ex_3 hw => ?_)
  obtain ⟨rfl, rfl, ex_3⟩ := ex_3
  have h11 := ex_3
  refine q_ldc2 (n := 4800) hx hb hown (hts _ (List.mem_cons_of_mem _ (mr36 _ (List.mem_of_getElem? (i := 14) rfl)))) rfl dX3_cycle_14 ?_
  first | refine q_ldiv hx hb dX3_cycle_17 ⟨lx_3, ux_3⟩ ⟨by decide, by decide⟩ (by omega) (by omega) (fun j_4 lj_4 uj_4 ej_4 => ?_) | refine q_ldivw hx hb dX3_cycle_17 ⟨lx_3, ux_3⟩ ⟨by decide, by decide⟩ (by omega) (fun j_4 lj_4 uj_4 ej_4 => ?_)
  have h17 := lc_48 (by omega) (by omega) h11 ej_4.1
  first | refine q_lmul hx hb dX3_cycle_18 ⟨by omega, by omega⟩ (fun j_5 lj_5 uj_5 ej_5 => ?_) | refine q_lmulw hx hb dX3_cycle_18 (fun j_5 lj_5 uj_5 ej_5 => ?_)
  exact q_ret_l hx hb hr hlocks hK hAe hw ⟨lj_5, uj_5⟩ (Nat.le_of_ble_eq_true rfl) (Nat.le_of_ble_eq_true rfl) dX3_cycle_19 ⟨rfl, rfl, by rw [cy_st q2.1 h8, ← h17.1]; exact ej_5⟩
set_option maxHeartbeats 4000000 in
set_option maxRecDepth 100000 in
theorem c_X9_asInt_f {Z : Zt} (zo : Zok Z) (l : Launch) (D : va_G) (cy : Cy) (L0 : List Nat) (f0 : Nat → va_E) (j0 : Int) (lj0 : -9223372036854775808 ≤ j0) (uj0 : j0 ≤ 9223372036854775807) (a1 : 0 ≤ j0) : Ci Z l yX9_asInt (Cond.code yX9_asInt cX9_asInt 2 (some .int) :: TB) ({ frames := 0, cells := 0, slots := 0, locals := 0 } : Room) 0 0 D (tq cy) [.long (lJ j0)] L0 f0 (fun (r : Int) (L1 : List Nat) (f1 : Nat → va_E) => L0 = L1 ∧ f0 = f1 ∧ (r = asF j0)) := by
  refine Ci.enter (cc := cX9_asInt) (n := 2) rfl (plainFor_of_name (by decide)) (Nat.le_of_ble_eq_true rfl) ?_
  intro p e s m below meth c ls A hx hb hr hts hown hlocks hnm hml hK hA hAe hw hZ hl
  have hown : s.vm.findClass RX9 = some m.cls := hown
  have hl : lv_has ls 2 [(0, .long (lJ j0))] := hl
  have hN : ZN s := (zo.2.2.2.2 _ _ _ hZ).2
  refine lv_lload_n hx hb dX9_asInt_0 rfl (lv_at hl 0 rfl) ?_
  refine q_ldc2 (n := 2147483647) hx hb hown (hts _ (List.mem_cons_of_mem _ (mr41 _ (List.mem_of_getElem? (i := 12) rfl)))) rfl dX9_asInt_1 ?_
  refine q_lcmp hx hb dX9_asInt_4 ⟨lj0, uj0⟩ ⟨by decide, by decide⟩ (fun x_1 lx_1 ux_1 ex_1 => ?_)
  refine q_if_le (tgt := 13) hx hb dX9_asInt_5 (by decide) ⟨lx_1, ux_1⟩ (fun c5 => ?_) (fun c5 => ?_)
  · refine lv_lload_n hx hb dX9_asInt_13 rfl (lv_at hl 0 rfl) ?_
    refine q_l2iv hx hb dX9_asInt_14 (fun x_2 lx_2 ux_2 ex_2 => ?_)
    have h14 := ex_2
    exact q_ret_i hx hb hr hlocks hK hAe hw ⟨lx_2, ux_2⟩ (Nat.le_of_ble_eq_true rfl) (Nat.le_of_ble_eq_true rfl) dX9_asInt_15 ⟨rfl, rfl, by first | exact as_hi (by omega) | exact as_lo a1 (by omega) h14 | fail "none"⟩
  · refine q_bipush hx hb dX9_asInt_8 rfl ?_
    refine lv_goto (tgt := 15) hx hb dX9_asInt_10 (by decide) ?_
    exact q_ret_i hx hb hr hlocks hK hAe hw ⟨by decide, by decide⟩ (Nat.le_of_ble_eq_true rfl) (Nat.le_of_ble_eq_true rfl) dX9_asInt_15 ⟨rfl, rfl, by first | exact as_hi (by omega) | exact as_lo a1 (by omega) h14 | fail "none"⟩
set_option maxHeartbeats 4000000 in
set_option maxRecDepth 100000 in
theorem c_X9_period_f {Z : Zt} (zo : Zok Z) (l : Launch) (D : va_G) (cy : Cy) (L0 : List Nat) (f0 : Nat → va_E) (a0 : Nat) (x1 : Int) (lx1 : -2147483648 ≤ x1) (ux1 : x1 ≤ 2147483647) (m_a0 : a0 ∈ L0) (o_a0 : Ob f0 a0 7) (hg : GI cy L0 f0) (rq : Int → Nat) (g : Int → Int) (mm : Int) (sx : SX f0 a0 rq g mm) : Ci Z l yX9_period (Cond.code yX9_period cX9_period 2 (some .int) :: TB) ({ frames := 3, cells := 0, slots := 0, locals := 75 } : Room) 0 0 D (tq cy) [.ref a0, .int (iI x1)] L0 f0 (fun (r : Int) (L1 : List Nat) (f1 : Nat → va_E) => L0 = L1 ∧ f0 = f1 ∧ ((r = -1 ∧ (x1 < 0 ∨ mm ≤ x1)) ∨ (0 ≤ x1 ∧ x1 < mm ∧ r = asF (cyK (g (44 * x1 + 3)) (g (44 * x1 + 4)))))) := by
  refine Ci.enter (cc := cX9_period) (n := 2) rfl (plainFor_of_name (by decide)) (Nat.le_of_ble_eq_true rfl) ?_
  intro p e s m below meth c ls A hx hb hr hts hown hlocks hnm hml hK hA hAe hw hZ hl
  have hown : s.vm.findClass RX9 = some m.cls := hown
  have hl : lv_has ls 2 [(0, .ref a0), (1, .int (iI x1))] := hl
  have hN : ZN s := (zo.2.2.2.2 _ _ _ hZ).2
  refine lv_aload_n hx hb dX9_period_0 rfl (lv_at hl 0 rfl) ?_
  obtain ⟨r_1, er_1, m_r_1, o_r_1⟩ := (show ∃ r, fR f0 a0 2 = some r ∧ r ∈ L0 ∧ Ob f0 r 5 from hg.2.1 _ m_a0 7 2 o_a0)
  refine q_getr (ci := 7) (C := RX9) (T := TX9) (N := 4) hx hb hts (fun w h => List.mem_cons_of_mem _ (mfX90 w h)) hown hK hw m_a0 o_a0 rfl 2 (by decide) (hts _ (List.mem_cons_of_mem _ (mr1 _ (List.mem_of_getElem? (i := 20) rfl)))) (fun _ h => h) rfl er_1 dX9_period_1 ?_
  have s1 := sx.at er_1
  refine lv_iload_n hx hb dX9_period_4 rfl (lv_at hl 1 rfl) ?_
  refine q_call_i hA hK hw (va_runV (As := [.int (iI x1)]) (rest := []) ⟨hx, hb, hml, hown, hts⟩ (c_X7_has_f zo l D cy L0 f0 r_1 x1 lx1 ux1 m_r_1 o_r_1 hg _) (cwV 1 hts (gT (inV (mr22 _ (List.mem_of_getElem? (i := 9) rfl)) (mr22 _ (List.mem_of_getElem? (i := 10) rfl)) (mr22 _ (List.mem_of_getElem? (i := 11) rfl)) (mr1 _ (List.mem_of_getElem? (i := 19) rfl)) (mr22 _ (List.mem_of_getElem? (i := 12) rfl)))) rfl rfl rfl (by decide +kernel) ⟨Nat.le_of_ble_eq_true rfl, Nat.le_of_ble_eq_true rfl⟩) (Wd.preV zo hA hZ hw hK m_r_1 o_r_1 rfl) rfl rfl hl.1 rfl (lv_room (Nat.le_of_ble_eq_true rfl)) dX9_period_5 ⟨Nat.le_of_ble_eq_true rfl, Nat.le_of_ble_eq_true rfl⟩) (fun x_2 L1 f1 H locs lx_2 ux_2 ex_2 hw => ?_)
  obtain ⟨rfl, rfl, ex_2⟩ := ex_2
  refine q_if_ne (tgt := 13) hx hb dX9_period_8 (by decide) ⟨lx_2, ux_2⟩ (fun c8 => ?_) (fun c8 => ?_)
  · refine lv_aload_n hx hb dX9_period_13 rfl (lv_at hl 0 rfl) ?_
    refine q_getr (ci := 7) (C := RX9) (T := TX9) (N := 4) hx hb hts (fun w h => List.mem_cons_of_mem _ (mfX90 w h)) hown hK hw m_a0 o_a0 rfl 2 (by decide) (hts _ (List.mem_cons_of_mem _ (mr1 _ (List.mem_of_getElem? (i := 20) rfl)))) (fun _ h => h) rfl er_1 dX9_period_14 ?_
    have s1 := sx.at er_1
    refine lv_iload_n hx hb dX9_period_17 rfl (lv_at hl 1 rfl) ?_
    refine q_call_r hA hK hw (va_runV (As := [.int (iI x1)]) (rest := []) ⟨hx, hb, hml, hown, hts⟩ (c_X7_at_f zo l D cy L0 f0 r_1 x1 lx1 ux1 m_r_1 o_r_1 hg (by omega) (by omega) _) (cwV 1 hts (gT (inV (mr24 _ (List.mem_of_getElem? (i := 8) rfl)) (mr24 _ (List.mem_of_getElem? (i := 9) rfl)) (mr24 _ (List.mem_of_getElem? (i := 10) rfl)) (mr1 _ (List.mem_of_getElem? (i := 19) rfl)) (mr24 _ (List.mem_of_getElem? (i := 11) rfl)))) rfl rfl rfl (by decide +kernel) ⟨Nat.le_of_ble_eq_true rfl, Nat.le_of_ble_eq_true rfl⟩) (Wd.preV zo hA hZ hw hK m_r_1 o_r_1 rfl) rfl rfl hl.1 rfl (lv_room (Nat.le_of_ble_eq_true rfl)) dX9_period_18 ⟨Nat.le_of_ble_eq_true rfl, Nat.le_of_ble_eq_true rfl⟩) (fun x_3 L1 f1 H locs ex_3 hw => ?_)
    obtain ⟨rfl, rfl, ex_3⟩ := ex_3
    obtain ⟨m_x_3, o_x_3, ex_3⟩ := ex_3
    have rb := s1.1.rb ex_3 (by omega) (by omega) (by omega)
    obtain ⟨r0, er, rk⟩ := rb.rule
    obtain ⟨kk, ekk⟩ : ∃ z : Int, z = g (44 * x1 + 3) := ⟨_, rfl⟩
    obtain ⟨nn, enn⟩ : ∃ z : Int, z = g (44 * x1 + 4) := ⟨_, rfl⟩
    obtain ⟨ss, ess⟩ : ∃ z : Int, z = g (44 * x1 + 5) := ⟨_, rfl⟩
    obtain ⟨vv, evv⟩ : ∃ z : Int, z = g (44 * x1 + 6) := ⟨_, rfl⟩
    obtain ⟨ww, eww⟩ : ∃ z : Int, z = g (44 * x1 + 7) := ⟨_, rfl⟩
    rw [← ekk, ← enn, ← ess, ← evv, ← eww] at rk
    have okw := rk.words
    have cyb := cy_b (k := kk) (n := nn) okw.1 okw.2.2.1
    obtain ⟨r_4, er_4, m_r_4, o_r_4⟩ := (show ∃ r, fR f0 x_3 3 = some r ∧ r ∈ L0 ∧ Rl f0 r from hg.2.1 _ m_x_3 0 3 o_x_3)
    refine q_getr (ci := 0) (C := RX0) (T := TX0) (N := 15) hx hb hts (fun w h => List.mem_cons_of_mem _ (mfX00 w h)) hown hK hw m_x_3 o_x_3 rfl 3 (by decide) (hts _ (List.mem_cons_of_mem _ (mr36 _ (List.mem_of_getElem? (i := 0) rfl)))) (fun _ h => h) rfl er_4 dX9_period_21 ?_
    have K24 : ∀ (x_5 : Int) (lx_5 : -9223372036854775808 ≤ x_5) (ux_5 : x_5 ≤ 9223372036854775807) (ex_5 : x_5 = cyK kk nn) (H : Heap) (locs : List Loc) (hw : Wd D A s.heap L0 f0 H locs), W p l e ({ frames := 3, cells := 0, slots := 0, locals := 75 } : Room) s m ([.ref a0, .int (iI x1)] : List Value).toArray below meth c H locs (0 + 0 + 0) (0 + 0 + 0) (MQ below (Qi D (tq cy) L0 f0 s.heap.size (fun (r : Int) (L1 : List Nat) (f1 : Nat → va_E) => L0 = L1 ∧ f0 = f1 ∧ ((r = -1 ∧ (x1 < 0 ∨ mm ≤ x1)) ∨ (0 ≤ x1 ∧ x1 < mm ∧ r = asF (cyK (g (44 * x1 + 3)) (g (44 * x1 + 4))))))) ([.ref a0, .int (iI x1)] : List Value).toArray s 0 0 A) (F0 m 27 ls (.long (lJ x_5) :: [])) := by
      intro x_5 lx_5 ux_5 ex_5 H locs hw
      have h24 := ex_5
      refine q_call_i hA hK hw (va_runS (As := [.long (lJ x_5)]) (rest := []) ⟨hx, hb, hml, hown, hts⟩ (c_X9_asInt_f zo l D cy L0 f0 x_5 lx_5 ux_5 (by omega) _) (va_cwS 1 hts (gT (inS (mr41 _ (List.mem_of_getElem? (i := 9) rfl)) (mr41 _ (List.mem_of_getElem? (i := 10) rfl)) (mr1 _ (List.mem_of_getElem? (i := 2) rfl)) (mr41 _ (List.mem_of_getElem? (i := 11) rfl)))) rfl rfl rfl (by decide +kernel) ⟨Nat.le_of_ble_eq_true rfl, Nat.le_of_ble_eq_true rfl⟩) (Wd.preS zo hA hZ hw hK) rfl rfl hl.1 rfl (lv_room (Nat.le_of_ble_eq_true rfl)) dX9_period_27 ⟨Nat.le_of_ble_eq_true rfl, Nat.le_of_ble_eq_true rfl⟩) (fun x_6 L1 f1 H locs lx_6 ux_6 ex_6 hw => ?_)
      obtain ⟨rfl, rfl, ex_6⟩ := ex_6
      have h27 := ex_6
      exact q_ret_i hx hb hr hlocks hK hAe hw ⟨lx_6, ux_6⟩ (Nat.le_of_ble_eq_true rfl) (Nat.le_of_ble_eq_true rfl) dX9_period_30 ⟨rfl, rfl, by exact Or.inr ⟨by omega, by omega, by rw [h27, h24, ekk, enn]⟩⟩
    rcases o_r_4 with o9 | o9 | o9 | o9
    · refine q_call_l hA hK hw (va_runU (As := []) (rest := []) ⟨hx, hb, hml, hown, hts⟩ (c_X2_cycle_f zo l D cy L0 f0 r_4 m_r_4 o9 hg kk nn ss vv ww (by have z9 := Option.some.inj (er_4.symm.trans er); rw [z9]; exact rk) _) (va_cwA 0 hts (gT (inU (mr36 _ (List.mem_of_getElem? (i := 5) rfl)) (mr36 _ (List.mem_of_getElem? (i := 6) rfl)) (mr36 _ (List.mem_of_getElem? (i := 7) rfl)) (mr36 _ (List.mem_of_getElem? (i := 8) rfl)) (mr12 _ (List.mem_of_getElem? (i := 12) rfl)) (mr36 _ (List.mem_of_getElem? (i := 9) rfl)))) rfl rfl rfl (hN _ (List.mem_of_getElem? (i := 18) rfl)) (by decide +kernel) ⟨Nat.le_of_ble_eq_true rfl, Nat.le_of_ble_eq_true rfl⟩) (Wd.preV zo hA hZ hw hK m_r_4 o9 rfl) rfl rfl hl.1 rfl (lv_room (Nat.le_of_ble_eq_true rfl)) dX9_period_24 ⟨Nat.le_of_ble_eq_true rfl, Nat.le_of_ble_eq_true rfl⟩) (fun x_5 L1 f1 H locs lx_5 ux_5 ex_5 hw => ?_)
      obtain ⟨rfl, rfl, ex_5⟩ := ex_5
      exact K24 x_5 lx_5 ux_5 ex_5 H locs hw
    · refine q_call_l hA hK hw (va_runU (As := []) (rest := []) ⟨hx, hb, hml, hown, hts⟩ (c_X3_cycle_f zo l D cy L0 f0 r_4 m_r_4 o9 hg kk nn ss vv ww (by have z9 := Option.some.inj (er_4.symm.trans er); rw [z9]; exact rk) _) (va_cwA 0 hts (gT (inU (mr36 _ (List.mem_of_getElem? (i := 5) rfl)) (mr36 _ (List.mem_of_getElem? (i := 6) rfl)) (mr36 _ (List.mem_of_getElem? (i := 10) rfl)) (mr36 _ (List.mem_of_getElem? (i := 11) rfl)) (mr12 _ (List.mem_of_getElem? (i := 18) rfl)) (mr36 _ (List.mem_of_getElem? (i := 12) rfl)))) rfl rfl rfl (hN _ (List.mem_of_getElem? (i := 18) rfl)) (by decide +kernel) ⟨Nat.le_of_ble_eq_true rfl, Nat.le_of_ble_eq_true rfl⟩) (Wd.preV zo hA hZ hw hK m_r_4 o9 rfl) rfl rfl hl.1 rfl (lv_room (Nat.le_of_ble_eq_true rfl)) dX9_period_24 ⟨Nat.le_of_ble_eq_true rfl, Nat.le_of_ble_eq_true rfl⟩) (fun x_5 L1 f1 H locs lx_5 ux_5 ex_5 hw => ?_)
      obtain ⟨rfl, rfl, ex_5⟩ := ex_5
      exact K24 x_5 lx_5 ux_5 ex_5 H locs hw
    · refine q_call_l hA hK hw (va_runU (As := []) (rest := []) ⟨hx, hb, hml, hown, hts⟩ (c_X4_cycle_f zo l D cy L0 f0 r_4 m_r_4 o9 hg kk nn ss vv ww (by have z9 := Option.some.inj (er_4.symm.trans er); rw [z9]; exact rk) _) (va_cwA 0 hts (gT (inU (mr36 _ (List.mem_of_getElem? (i := 5) rfl)) (mr36 _ (List.mem_of_getElem? (i := 6) rfl)) (mr36 _ (List.mem_of_getElem? (i := 20) rfl)) (mr36 _ (List.mem_of_getElem? (i := 21) rfl)) (mr2 _ (List.mem_of_getElem? (i := 7) rfl)) (mr36 _ (List.mem_of_getElem? (i := 22) rfl)))) rfl rfl rfl (hN _ (List.mem_of_getElem? (i := 18) rfl)) (by decide +kernel) ⟨Nat.le_of_ble_eq_true rfl, Nat.le_of_ble_eq_true rfl⟩) (Wd.preV zo hA hZ hw hK m_r_4 o9 rfl) rfl rfl hl.1 rfl (lv_room (Nat.le_of_ble_eq_true rfl)) dX9_period_24 ⟨Nat.le_of_ble_eq_true rfl, Nat.le_of_ble_eq_true rfl⟩) (fun x_5 L1 f1 H locs lx_5 ux_5 ex_5 hw => ?_)
      obtain ⟨rfl, rfl, ex_5⟩ := ex_5
      exact K24 x_5 lx_5 ux_5 ex_5 H locs hw
    · refine q_call_l hA hK hw (va_runU (As := []) (rest := []) ⟨hx, hb, hml, hown, hts⟩ (c_X8_cycle_f zo l D cy L0 f0 r_4 m_r_4 o9 hg kk nn ss vv ww (by have z9 := Option.some.inj (er_4.symm.trans er); rw [z9]; exact rk) _) (va_cwA 0 hts (gT (inU (mr36 _ (List.mem_of_getElem? (i := 5) rfl)) (mr36 _ (List.mem_of_getElem? (i := 6) rfl)) (mr36 _ (List.mem_of_getElem? (i := 23) rfl)) (mr37 _ (List.mem_of_getElem? (i := 0) rfl)) (mr12 _ (List.mem_of_getElem? (i := 15) rfl)) (mr37 _ (List.mem_of_getElem? (i := 1) rfl)))) rfl rfl rfl (hN _ (List.mem_of_getElem? (i := 18) rfl)) (by decide +kernel) ⟨Nat.le_of_ble_eq_true rfl, Nat.le_of_ble_eq_true rfl⟩) (Wd.preV zo hA hZ hw hK m_r_4 o9 rfl) rfl rfl hl.1 rfl (lv_room (Nat.le_of_ble_eq_true rfl)) dX9_period_24 ⟨Nat.le_of_ble_eq_true rfl, Nat.le_of_ble_eq_true rfl⟩) (fun x_5 L1 f1 H locs lx_5 ux_5 ex_5 hw => ?_)
      obtain ⟨rfl, rfl, ex_5⟩ := ex_5
      exact K24 x_5 lx_5 ux_5 ex_5 H locs hw
  · refine q_iconst hx hb dX9_period_11 ?_
    exact q_ret_i hx hb hr hlocks hK hAe hw ⟨by decide, by decide⟩ (Nat.le_of_ble_eq_true rfl) (Nat.le_of_ble_eq_true rfl) dX9_period_12 ⟨rfl, rfl, by exact Or.inl ⟨by omega, by omega⟩⟩
set_option maxHeartbeats 4000000 in
set_option maxRecDepth 100000 in
theorem c_X9_periodOf_f {Z : Zt} (zo : Zok Z) (l : Launch) (D : va_G) (cy : Cy) (L0 : List Nat) (f0 : Nat → va_E) (a0 : Nat) (x1 : Int) (lx1 : -2147483648 ≤ x1) (ux1 : x1 ≤ 2147483647) (x2 : Int) (lx2 : -2147483648 ≤ x2) (ux2 : x2 ≤ 2147483647) (m_a0 : a0 ∈ L0) (o_a0 : Ob f0 a0 7) (hg : GI cy L0 f0) (rq : Int → Nat) (g : Int → Int) (mm : Int) (sx : SX f0 a0 rq g mm) : Ci Z l yX9_periodOf (Cond.code yX9_periodOf cX9_periodOf 3 (some .int) :: TB) ({ frames := 3, cells := 0, slots := 0, locals := 75 } : Room) 0 0 D (tq cy) [.ref a0, .int (iI x1), .int (iI x2)] L0 f0 (fun (r : Int) (L1 : List Nat) (f1 : Nat → va_E) => L0 = L1 ∧ f0 = f1 ∧ ((r = -1 ∧ ((x1 < 0 ∨ mm ≤ x1) ∨ (x2 < 0 ∨ mm ≤ x2))) ∨ (0 ≤ x1 ∧ x1 < mm ∧ 0 ≤ x2 ∧ x2 < mm ∧ r = asF (lcF (cyK (g (44 * x1 + 3)) (g (44 * x1 + 4))) (cyK (g (44 * x2 + 3)) (g (44 * x2 + 4))))))) := by
  refine Ci.enter (cc := cX9_periodOf) (n := 3) rfl (plainFor_of_name (by decide)) (Nat.le_of_ble_eq_true rfl) ?_
  intro p e s m below meth c ls A hx hb hr hts hown hlocks hnm hml hK hA hAe hw hZ hl
  have hown : s.vm.findClass RX9 = some m.cls := hown
  have hl : lv_has ls 3 [(0, .ref a0), (1, .int (iI x1)), (2, .int (iI x2))] := hl
  have hN : ZN s := (zo.2.2.2.2 _ _ _ hZ).2
  refine lv_aload_n hx hb dX9_periodOf_0 rfl (lv_at hl 0 rfl) ?_
  obtain ⟨r_1, er_1, m_r_1, o_r_1⟩ := (show ∃ r, fR f0 a0 2 = some r ∧ r ∈ L0 ∧ Ob f0 r 5 from hg.2.1 _ m_a0 7 2 o_a0)
  refine q_getr (ci := 7) (C := RX9) (T := TX9) (N := 4) hx hb hts (fun w h => List.mem_cons_of_mem _ (mfX90 w h)) hown hK hw m_a0 o_a0 rfl 2 (by decide) (hts _ (List.mem_cons_of_mem _ (mr1 _ (List.mem_of_getElem? (i := 20) rfl)))) (fun _ h => h) rfl er_1 dX9_periodOf_1 ?_
  have s1 := sx.at er_1
  refine lv_iload_n hx hb dX9_periodOf_4 rfl (lv_at hl 1 rfl) ?_
  refine q_call_i hA hK hw (va_runV (As := [.int (iI x1)]) (rest := []) ⟨hx, hb, hml, hown, hts⟩ (c_X7_has_f zo l D cy L0 f0 r_1 x1 lx1 ux1 m_r_1 o_r_1 hg _) (cwV 1 hts (gT (inV (mr22 _ (List.mem_of_getElem? (i := 9) rfl)) (mr22 _ (List.mem_of_getElem? (i := 10) rfl)) (mr22 _ (List.mem_of_getElem? (i := 11) rfl)) (mr1 _ (List.mem_of_getElem? (i := 19) rfl)) (mr22 _ (List.mem_of_getElem? (i := 12) rfl)))) rfl rfl rfl (by decide +kernel) ⟨Nat.le_of_ble_eq_true rfl, Nat.le_of_ble_eq_true rfl⟩) (Wd.preV zo hA hZ hw hK m_r_1 o_r_1 rfl) rfl rfl hl.1 rfl (lv_room (Nat.le_of_ble_eq_true rfl)) dX9_periodOf_5 ⟨Nat.le_of_ble_eq_true rfl, Nat.le_of_ble_eq_true rfl⟩) (fun x_2 L1 f1 H locs lx_2 ux_2 ex_2 hw => ?_)
  obtain ⟨rfl, rfl, ex_2⟩ := ex_2
  refine q_if_eq (tgt := 22) hx hb dX9_periodOf_8 (by decide) ⟨lx_2, ux_2⟩ (fun c8 => ?_) (fun c8 => ?_)
  · refine q_iconst hx hb dX9_periodOf_22 ?_
    exact q_ret_i hx hb hr hlocks hK hAe hw ⟨by decide, by decide⟩ (Nat.le_of_ble_eq_true rfl) (Nat.le_of_ble_eq_true rfl) dX9_periodOf_23 ⟨rfl, rfl, by exact Or.inl ⟨by omega, by omega⟩⟩
  · refine lv_aload_n hx hb dX9_periodOf_11 rfl (lv_at hl 0 rfl) ?_
    refine q_getr (ci := 7) (C := RX9) (T := TX9) (N := 4) hx hb hts (fun w h => List.mem_cons_of_mem _ (mfX90 w h)) hown hK hw m_a0 o_a0 rfl 2 (by decide) (hts _ (List.mem_cons_of_mem _ (mr1 _ (List.mem_of_getElem? (i := 20) rfl)))) (fun _ h => h) rfl er_1 dX9_periodOf_12 ?_
    have s1 := sx.at er_1
    refine lv_iload_n hx hb dX9_periodOf_15 rfl (lv_at hl 2 rfl) ?_
    refine q_call_i hA hK hw (va_runV (As := [.int (iI x2)]) (rest := []) ⟨hx, hb, hml, hown, hts⟩ (c_X7_has_f zo l D cy L0 f0 r_1 x2 lx2 ux2 m_r_1 o_r_1 hg _) (cwV 1 hts (gT (inV (mr22 _ (List.mem_of_getElem? (i := 9) rfl)) (mr22 _ (List.mem_of_getElem? (i := 10) rfl)) (mr22 _ (List.mem_of_getElem? (i := 11) rfl)) (mr1 _ (List.mem_of_getElem? (i := 19) rfl)) (mr22 _ (List.mem_of_getElem? (i := 12) rfl)))) rfl rfl rfl (by decide +kernel) ⟨Nat.le_of_ble_eq_true rfl, Nat.le_of_ble_eq_true rfl⟩) (Wd.preV zo hA hZ hw hK m_r_1 o_r_1 rfl) rfl rfl hl.1 rfl (lv_room (Nat.le_of_ble_eq_true rfl)) dX9_periodOf_16 ⟨Nat.le_of_ble_eq_true rfl, Nat.le_of_ble_eq_true rfl⟩) (fun x_3 L1 f1 H locs lx_3 ux_3 ex_3 hw => ?_)
    obtain ⟨rfl, rfl, ex_3⟩ := ex_3
    refine q_if_ne (tgt := 24) hx hb dX9_periodOf_19 (by decide) ⟨lx_3, ux_3⟩ (fun c19 => ?_) (fun c19 => ?_)
    · refine lv_aload_n hx hb dX9_periodOf_24 rfl (lv_at hl 0 rfl) ?_
      refine q_getr (ci := 7) (C := RX9) (T := TX9) (N := 4) hx hb hts (fun w h => List.mem_cons_of_mem _ (mfX90 w h)) hown hK hw m_a0 o_a0 rfl 2 (by decide) (hts _ (List.mem_cons_of_mem _ (mr1 _ (List.mem_of_getElem? (i := 20) rfl)))) (fun _ h => h) rfl er_1 dX9_periodOf_25 ?_
      have s1 := sx.at er_1
      refine lv_iload_n hx hb dX9_periodOf_28 rfl (lv_at hl 1 rfl) ?_
      refine q_call_r hA hK hw (va_runV (As := [.int (iI x1)]) (rest := []) ⟨hx, hb, hml, hown, hts⟩ (c_X7_at_f zo l D cy L0 f0 r_1 x1 lx1 ux1 m_r_1 o_r_1 hg (by omega) (by omega) _) (cwV 1 hts (gT (inV (mr24 _ (List.mem_of_getElem? (i := 8) rfl)) (mr24 _ (List.mem_of_getElem? (i := 9) rfl)) (mr24 _ (List.mem_of_getElem? (i := 10) rfl)) (mr1 _ (List.mem_of_getElem? (i := 19) rfl)) (mr24 _ (List.mem_of_getElem? (i := 11) rfl)))) rfl rfl rfl (by decide +kernel) ⟨Nat.le_of_ble_eq_true rfl, Nat.le_of_ble_eq_true rfl⟩) (Wd.preV zo hA hZ hw hK m_r_1 o_r_1 rfl) rfl rfl hl.1 rfl (lv_room (Nat.le_of_ble_eq_true rfl)) dX9_periodOf_29 ⟨Nat.le_of_ble_eq_true rfl, Nat.le_of_ble_eq_true rfl⟩) (fun x_4 L1 f1 H locs ex_4 hw => ?_)
      obtain ⟨rfl, rfl, ex_4⟩ := ex_4
      obtain ⟨m_x_4, o_x_4, ex_4⟩ := ex_4
      have rb := s1.1.rb ex_4 (by omega) (by omega) (by omega)
      obtain ⟨r0, er, rk⟩ := rb.rule
      obtain ⟨kk, ekk⟩ : ∃ z : Int, z = g (44 * x1 + 3) := ⟨_, rfl⟩
      obtain ⟨nn, enn⟩ : ∃ z : Int, z = g (44 * x1 + 4) := ⟨_, rfl⟩
      obtain ⟨ss, ess⟩ : ∃ z : Int, z = g (44 * x1 + 5) := ⟨_, rfl⟩
      obtain ⟨vv, evv⟩ : ∃ z : Int, z = g (44 * x1 + 6) := ⟨_, rfl⟩
      obtain ⟨ww, eww⟩ : ∃ z : Int, z = g (44 * x1 + 7) := ⟨_, rfl⟩
      rw [← ekk, ← enn, ← ess, ← evv, ← eww] at rk
      have okw := rk.words
      have cyb := cy_b (k := kk) (n := nn) okw.1 okw.2.2.1
      obtain ⟨r_5, er_5, m_r_5, o_r_5⟩ := (show ∃ r, fR f0 x_4 3 = some r ∧ r ∈ L0 ∧ Rl f0 r from hg.2.1 _ m_x_4 0 3 o_x_4)
      refine q_getr (ci := 0) (C := RX0) (T := TX0) (N := 15) hx hb hts (fun w h => List.mem_cons_of_mem _ (mfX00 w h)) hown hK hw m_x_4 o_x_4 rfl 3 (by decide) (hts _ (List.mem_cons_of_mem _ (mr36 _ (List.mem_of_getElem? (i := 0) rfl)))) (fun _ h => h) rfl er_5 dX9_periodOf_32 ?_
      have K35 : ∀ (x_6 : Int) (lx_6 : -9223372036854775808 ≤ x_6) (ux_6 : x_6 ≤ 9223372036854775807) (ex_6 : x_6 = cyK kk nn) (H : Heap) (locs : List Loc) (hw : Wd D A s.heap L0 f0 H locs), W p l e ({ frames := 3, cells := 0, slots := 0, locals := 75 } : Room) s m ([.ref a0, .int (iI x1), .int (iI x2)] : List Value).toArray below meth c H locs (0 + 0 + 0 + 0) (0 + 0 + 0 + 0) (MQ below (Qi D (tq cy) L0 f0 s.heap.size (fun (r : Int) (L1 : List Nat) (f1 : Nat → va_E) => L0 = L1 ∧ f0 = f1 ∧ ((r = -1 ∧ ((x1 < 0 ∨ mm ≤ x1) ∨ (x2 < 0 ∨ mm ≤ x2))) ∨ (0 ≤ x1 ∧ x1 < mm ∧ 0 ≤ x2 ∧ x2 < mm ∧ r = asF (lcF (cyK (g (44 * x1 + 3)) (g (44 * x1 + 4))) (cyK (g (44 * x2 + 3)) (g (44 * x2 + 4)))))))) ([.ref a0, .int (iI x1), .int (iI x2)] : List Value).toArray s 0 0 A) (F0 m 38 ls (.long (lJ x_6) :: [])) := by
        intro x_6 lx_6 ux_6 ex_6 H locs hw
        have h35 := ex_6.trans (show cyK kk nn = cyK (g (44 * x1 + 3)) (g (44 * x1 + 4)) by rw [ekk, enn])
        rw [show cyK kk nn = cyK (g (44 * x1 + 3)) (g (44 * x1 + 4)) by rw [ekk, enn]] at cyb
        have cyb1 := cyb
        clear ex_6 ekk enn ess evv eww rk er okw
        refine lv_aload_n hx hb dX9_periodOf_38 rfl (lv_at hl 0 rfl) ?_
        refine q_getr (ci := 7) (C := RX9) (T := TX9) (N := 4) hx hb hts (fun w h => List.mem_cons_of_mem _ (mfX90 w h)) hown hK hw m_a0 o_a0 rfl 2 (by decide) (hts _ (List.mem_cons_of_mem _ (mr1 _ (List.mem_of_getElem? (i := 20) rfl)))) (fun _ h => h) rfl er_1 dX9_periodOf_39 ?_
        have s1 := sx.at er_1
        refine lv_iload_n hx hb dX9_periodOf_42 rfl (lv_at hl 2 rfl) ?_
        refine q_call_r hA hK hw (va_runV (As := [.int (iI x2)]) (rest := [.long (lJ x_6)]) ⟨hx, hb, hml, hown, hts⟩ (c_X7_at_f zo l D cy L0 f0 r_1 x2 lx2 ux2 m_r_1 o_r_1 hg (by omega) (by omega) _) (cwV 1 hts (gT (inV (mr24 _ (List.mem_of_getElem? (i := 8) rfl)) (mr24 _ (List.mem_of_getElem? (i := 9) rfl)) (mr24 _ (List.mem_of_getElem? (i := 10) rfl)) (mr1 _ (List.mem_of_getElem? (i := 19) rfl)) (mr24 _ (List.mem_of_getElem? (i := 11) rfl)))) rfl rfl rfl (by decide +kernel) ⟨Nat.le_of_ble_eq_true rfl, Nat.le_of_ble_eq_true rfl⟩) (Wd.preV zo hA hZ hw hK m_r_1 o_r_1 rfl) rfl rfl hl.1 rfl (lv_room (Nat.le_of_ble_eq_true rfl)) dX9_periodOf_43 ⟨Nat.le_of_ble_eq_true rfl, Nat.le_of_ble_eq_true rfl⟩) (fun x_7 L1 f1 H locs ex_7 hw => ?_)
        obtain ⟨rfl, rfl, ex_7⟩ := ex_7
        obtain ⟨m_x_7, o_x_7, ex_7⟩ := ex_7
        have rb := s1.1.rb ex_7 (by omega) (by omega) (by omega)
        obtain ⟨r0, er, rk⟩ := rb.rule
        obtain ⟨kk, ekk⟩ : ∃ z : Int, z = g (44 * x2 + 3) := ⟨_, rfl⟩
        obtain ⟨nn, enn⟩ : ∃ z : Int, z = g (44 * x2 + 4) := ⟨_, rfl⟩
        obtain ⟨ss, ess⟩ : ∃ z : Int, z = g (44 * x2 + 5) := ⟨_, rfl⟩
        obtain ⟨vv, evv⟩ : ∃ z : Int, z = g (44 * x2 + 6) := ⟨_, rfl⟩
        obtain ⟨ww, eww⟩ : ∃ z : Int, z = g (44 * x2 + 7) := ⟨_, rfl⟩
        rw [← ekk, ← enn, ← ess, ← evv, ← eww] at rk
        have okw := rk.words
        have cyb := cy_b (k := kk) (n := nn) okw.1 okw.2.2.1
        obtain ⟨r_8, er_8, m_r_8, o_r_8⟩ := (show ∃ r, fR f0 x_7 3 = some r ∧ r ∈ L0 ∧ Rl f0 r from hg.2.1 _ m_x_7 0 3 o_x_7)
        refine q_getr (ci := 0) (C := RX0) (T := TX0) (N := 15) hx hb hts (fun w h => List.mem_cons_of_mem _ (mfX00 w h)) hown hK hw m_x_7 o_x_7 rfl 3 (by decide) (hts _ (List.mem_cons_of_mem _ (mr36 _ (List.mem_of_getElem? (i := 0) rfl)))) (fun _ h => h) rfl er_8 dX9_periodOf_46 ?_
        have K49 : ∀ (x_9 : Int) (lx_9 : -9223372036854775808 ≤ x_9) (ux_9 : x_9 ≤ 9223372036854775807) (ex_9 : x_9 = cyK kk nn) (H : Heap) (locs : List Loc) (hw : Wd D A s.heap L0 f0 H locs), W p l e ({ frames := 3, cells := 0, slots := 0, locals := 75 } : Room) s m ([.ref a0, .int (iI x1), .int (iI x2)] : List Value).toArray below meth c H locs (0 + 0 + 0 + 0 + 0) (0 + 0 + 0 + 0 + 0) (MQ below (Qi D (tq cy) L0 f0 s.heap.size (fun (r : Int) (L1 : List Nat) (f1 : Nat → va_E) => L0 = L1 ∧ f0 = f1 ∧ ((r = -1 ∧ ((x1 < 0 ∨ mm ≤ x1) ∨ (x2 < 0 ∨ mm ≤ x2))) ∨ (0 ≤ x1 ∧ x1 < mm ∧ 0 ≤ x2 ∧ x2 < mm ∧ r = asF (lcF (cyK (g (44 * x1 + 3)) (g (44 * x1 + 4))) (cyK (g (44 * x2 + 3)) (g (44 * x2 + 4)))))))) ([.ref a0, .int (iI x1), .int (iI x2)] : List Value).toArray s 0 0 A) (F0 m 52 ls (.long (lJ x_9) :: [.long (lJ x_6)])) := by
          intro x_9 lx_9 ux_9 ex_9 H locs hw
          have h49 := ex_9.trans (show cyK kk nn = cyK (g (44 * x2 + 3)) (g (44 * x2 + 4)) by rw [ekk, enn])
          have hnn := lc_nn (a := cyK (g (44 * x1 + 3)) (g (44 * x1 + 4))) (b := cyK (g (44 * x2 + 3)) (g (44 * x2 + 4))) (by omega) (by rw [← ekk, ← enn]; omega)
          refine q_call_l hA hK hw (va_runS (As := [.long (lJ x_6), .long (lJ x_9)]) (rest := []) ⟨hx, hb, hml, hown, hts⟩ (c_X9_commonMultiple_f zo l D cy L0 f0 x_6 lx_6 ux_6 x_9 lx_9 ux_9 (by omega) (by omega) (by omega) (by omega) _) (va_cwS 2 hts (gT (inS (mr37 _ (List.mem_of_getElem? (i := 3) rfl)) (mr36 _ (List.mem_of_getElem? (i := 15) rfl)) (mr1 _ (List.mem_of_getElem? (i := 2) rfl)) (mr36 _ (List.mem_of_getElem? (i := 16) rfl)))) rfl rfl rfl (by decide +kernel) ⟨Nat.le_of_ble_eq_true rfl, Nat.le_of_ble_eq_true rfl⟩) (Wd.preS zo hA hZ hw hK) rfl rfl hl.1 rfl (lv_room (Nat.le_of_ble_eq_true rfl)) dX9_periodOf_52 ⟨Nat.le_of_ble_eq_true rfl, Nat.le_of_ble_eq_true rfl⟩) (fun x_10 L1 f1 H locs lx_10 ux_10 ex_10 hw => ?_)
          obtain ⟨rfl, rfl, ex_10⟩ := ex_10
          have h52 := ex_10
          have h53 : 0 ≤ x_10 := by rw [h52, h35, h49]; exact hnn
          refine q_call_i hA hK hw (va_runS (As := [.long (lJ x_10)]) (rest := []) ⟨hx, hb, hml, hown, hts⟩ (c_X9_asInt_f zo l D cy L0 f0 x_10 lx_10 ux_10 (by omega) _) (va_cwS 1 hts (gT (inS (mr41 _ (List.mem_of_getElem? (i := 9) rfl)) (mr41 _ (List.mem_of_getElem? (i := 10) rfl)) (mr1 _ (List.mem_of_getElem? (i := 2) rfl)) (mr41 _ (List.mem_of_getElem? (i := 11) rfl)))) rfl rfl rfl (by decide +kernel) ⟨Nat.le_of_ble_eq_true rfl, Nat.le_of_ble_eq_true rfl⟩) (Wd.preS zo hA hZ hw hK) rfl rfl hl.1 rfl (lv_room (Nat.le_of_ble_eq_true rfl)) dX9_periodOf_55 ⟨Nat.le_of_ble_eq_true rfl, Nat.le_of_ble_eq_true rfl⟩) (fun x_11 L1 f1 H locs lx_11 ux_11 ex_11 hw => ?_)
          obtain ⟨rfl, rfl, ex_11⟩ := ex_11
          have h55 := ex_11
          exact q_ret_i hx hb hr hlocks hK hAe hw ⟨lx_11, ux_11⟩ (Nat.le_of_ble_eq_true rfl) (Nat.le_of_ble_eq_true rfl) dX9_periodOf_58 ⟨rfl, rfl, by exact Or.inr ⟨by omega, by omega, by omega, by omega, by rw [h55, h52, h35, h49]⟩⟩
        rcases o_r_8 with o9 | o9 | o9 | o9
        · refine q_call_l hA hK hw (va_runU (As := []) (rest := [.long (lJ x_6)]) ⟨hx, hb, hml, hown, hts⟩ (c_X2_cycle_f zo l D cy L0 f0 r_8 m_r_8 o9 hg kk nn ss vv ww (by have z9 := Option.some.inj (er_8.symm.trans er); rw [z9]; exact rk) _) (va_cwA 0 hts (gT (inU (mr36 _ (List.mem_of_getElem? (i := 5) rfl)) (mr36 _ (List.mem_of_getElem? (i := 6) rfl)) (mr36 _ (List.mem_of_getElem? (i := 7) rfl)) (mr36 _ (List.mem_of_getElem? (i := 8) rfl)) (mr12 _ (List.mem_of_getElem? (i := 12) rfl)) (mr36 _ (List.mem_of_getElem? (i := 9) rfl)))) rfl rfl rfl (hN _ (List.mem_of_getElem? (i := 18) rfl)) (by decide +kernel) ⟨Nat.le_of_ble_eq_true rfl, Nat.le_of_ble_eq_true rfl⟩) (Wd.preV zo hA hZ hw hK m_r_8 o9 rfl) rfl rfl hl.1 rfl (lv_room (Nat.le_of_ble_eq_true rfl)) dX9_periodOf_49 ⟨Nat.le_of_ble_eq_true rfl, Nat.le_of_ble_eq_true rfl⟩) (fun x_9 L1 f1 H locs lx_9 ux_9 ex_9 hw => ?_)
          obtain ⟨rfl, rfl, ex_9⟩ := ex_9
          exact K49 x_9 lx_9 ux_9 ex_9 H locs hw
        · refine q_call_l hA hK hw (va_runU (As := []) (rest := [.long (lJ x_6)]) ⟨hx, hb, hml, hown, hts⟩ (c_X3_cycle_f zo l D cy L0 f0 r_8 m_r_8 o9 hg kk nn ss vv ww (by have z9 := Option.some.inj (er_8.symm.trans er); rw [z9]; exact rk) _) (va_cwA 0 hts (gT (inU (mr36 _ (List.mem_of_getElem? (i := 5) rfl)) (mr36 _ (List.mem_of_getElem? (i := 6) rfl)) (mr36 _ (List.mem_of_getElem? (i := 10) rfl)) (mr36 _ (List.mem_of_getElem? (i := 11) rfl)) (mr12 _ (List.mem_of_getElem? (i := 18) rfl)) (mr36 _ (List.mem_of_getElem? (i := 12) rfl)))) rfl rfl rfl (hN _ (List.mem_of_getElem? (i := 18) rfl)) (by decide +kernel) ⟨Nat.le_of_ble_eq_true rfl, Nat.le_of_ble_eq_true rfl⟩) (Wd.preV zo hA hZ hw hK m_r_8 o9 rfl) rfl rfl hl.1 rfl (lv_room (Nat.le_of_ble_eq_true rfl)) dX9_periodOf_49 ⟨Nat.le_of_ble_eq_true rfl, Nat.le_of_ble_eq_true rfl⟩) (fun x_9 L1 f1 H locs lx_9 ux_9 ex_9 hw => ?_)
          obtain ⟨rfl, rfl, ex_9⟩ := ex_9
          exact K49 x_9 lx_9 ux_9 ex_9 H locs hw
        · refine q_call_l hA hK hw (va_runU (As := []) (rest := [.long (lJ x_6)]) ⟨hx, hb, hml, hown, hts⟩ (c_X4_cycle_f zo l D cy L0 f0 r_8 m_r_8 o9 hg kk nn ss vv ww (by have z9 := Option.some.inj (er_8.symm.trans er); rw [z9]; exact rk) _) (va_cwA 0 hts (gT (inU (mr36 _ (List.mem_of_getElem? (i := 5) rfl)) (mr36 _ (List.mem_of_getElem? (i := 6) rfl)) (mr36 _ (List.mem_of_getElem? (i := 20) rfl)) (mr36 _ (List.mem_of_getElem? (i := 21) rfl)) (mr2 _ (List.mem_of_getElem? (i := 7) rfl)) (mr36 _ (List.mem_of_getElem? (i := 22) rfl)))) rfl rfl rfl (hN _ (List.mem_of_getElem? (i := 18) rfl)) (by decide +kernel) ⟨Nat.le_of_ble_eq_true rfl, Nat.le_of_ble_eq_true rfl⟩) (Wd.preV zo hA hZ hw hK m_r_8 o9 rfl) rfl rfl hl.1 rfl (lv_room (Nat.le_of_ble_eq_true rfl)) dX9_periodOf_49 ⟨Nat.le_of_ble_eq_true rfl, Nat.le_of_ble_eq_true rfl⟩) (fun x_9 L1 f1 H locs lx_9 ux_9 ex_9 hw => ?_)
          obtain ⟨rfl, rfl, ex_9⟩ := ex_9
          exact K49 x_9 lx_9 ux_9 ex_9 H locs hw
        · refine q_call_l hA hK hw (va_runU (As := []) (rest := [.long (lJ x_6)]) ⟨hx, hb, hml, hown, hts⟩ (c_X8_cycle_f zo l D cy L0 f0 r_8 m_r_8 o9 hg kk nn ss vv ww (by have z9 := Option.some.inj (er_8.symm.trans er); rw [z9]; exact rk) _) (va_cwA 0 hts (gT (inU (mr36 _ (List.mem_of_getElem? (i := 5) rfl)) (mr36 _ (List.mem_of_getElem? (i := 6) rfl)) (mr36 _ (List.mem_of_getElem? (i := 23) rfl)) (mr37 _ (List.mem_of_getElem? (i := 0) rfl)) (mr12 _ (List.mem_of_getElem? (i := 15) rfl)) (mr37 _ (List.mem_of_getElem? (i := 1) rfl)))) rfl rfl rfl (hN _ (List.mem_of_getElem? (i := 18) rfl)) (by decide +kernel) ⟨Nat.le_of_ble_eq_true rfl, Nat.le_of_ble_eq_true rfl⟩) (Wd.preV zo hA hZ hw hK m_r_8 o9 rfl) rfl rfl hl.1 rfl (lv_room (Nat.le_of_ble_eq_true rfl)) dX9_periodOf_49 ⟨Nat.le_of_ble_eq_true rfl, Nat.le_of_ble_eq_true rfl⟩) (fun x_9 L1 f1 H locs lx_9 ux_9 ex_9 hw => ?_)
          obtain ⟨rfl, rfl, ex_9⟩ := ex_9
          exact K49 x_9 lx_9 ux_9 ex_9 H locs hw
      rcases o_r_5 with o9 | o9 | o9 | o9
      · refine q_call_l hA hK hw (va_runU (As := []) (rest := []) ⟨hx, hb, hml, hown, hts⟩ (c_X2_cycle_f zo l D cy L0 f0 r_5 m_r_5 o9 hg kk nn ss vv ww (by have z9 := Option.some.inj (er_5.symm.trans er); rw [z9]; exact rk) _) (va_cwA 0 hts (gT (inU (mr36 _ (List.mem_of_getElem? (i := 5) rfl)) (mr36 _ (List.mem_of_getElem? (i := 6) rfl)) (mr36 _ (List.mem_of_getElem? (i := 7) rfl)) (mr36 _ (List.mem_of_getElem? (i := 8) rfl)) (mr12 _ (List.mem_of_getElem? (i := 12) rfl)) (mr36 _ (List.mem_of_getElem? (i := 9) rfl)))) rfl rfl rfl (hN _ (List.mem_of_getElem? (i := 18) rfl)) (by decide +kernel) ⟨Nat.le_of_ble_eq_true rfl, Nat.le_of_ble_eq_true rfl⟩) (Wd.preV zo hA hZ hw hK m_r_5 o9 rfl) rfl rfl hl.1 rfl (lv_room (Nat.le_of_ble_eq_true rfl)) dX9_periodOf_35 ⟨Nat.le_of_ble_eq_true rfl, Nat.le_of_ble_eq_true rfl⟩) (fun x_6 L1 f1 H locs lx_6 ux_6 ex_6 hw => ?_)
        obtain ⟨rfl, rfl, ex_6⟩ := ex_6
        exact K35 x_6 lx_6 ux_6 ex_6 H locs hw
      · refine q_call_l hA hK hw (va_runU (As := []) (rest := []) ⟨hx, hb, hml, hown, hts⟩ (c_X3_cycle_f zo l D cy L0 f0 r_5 m_r_5 o9 hg kk nn ss vv ww (by have z9 := Option.some.inj (er_5.symm.trans er); rw [z9]; exact rk) _) (va_cwA 0 hts (gT (inU (mr36 _ (List.mem_of_getElem? (i := 5) rfl)) (mr36 _ (List.mem_of_getElem? (i := 6) rfl)) (mr36 _ (List.mem_of_getElem? (i := 10) rfl)) (mr36 _ (List.mem_of_getElem? (i := 11) rfl)) (mr12 _ (List.mem_of_getElem? (i := 18) rfl)) (mr36 _ (List.mem_of_getElem? (i := 12) rfl)))) rfl rfl rfl (hN _ (List.mem_of_getElem? (i := 18) rfl)) (by decide +kernel) ⟨Nat.le_of_ble_eq_true rfl, Nat.le_of_ble_eq_true rfl⟩) (Wd.preV zo hA hZ hw hK m_r_5 o9 rfl) rfl rfl hl.1 rfl (lv_room (Nat.le_of_ble_eq_true rfl)) dX9_periodOf_35 ⟨Nat.le_of_ble_eq_true rfl, Nat.le_of_ble_eq_true rfl⟩) (fun x_6 L1 f1 H locs lx_6 ux_6 ex_6 hw => ?_)
        obtain ⟨rfl, rfl, ex_6⟩ := ex_6
        exact K35 x_6 lx_6 ux_6 ex_6 H locs hw
      · refine q_call_l hA hK hw (va_runU (As := []) (rest := []) ⟨hx, hb, hml, hown, hts⟩ (c_X4_cycle_f zo l D cy L0 f0 r_5 m_r_5 o9 hg kk nn ss vv ww (by have z9 := Option.some.inj (er_5.symm.trans er); rw [z9]; exact rk) _) (va_cwA 0 hts (gT (inU (mr36 _ (List.mem_of_getElem? (i := 5) rfl)) (mr36 _ (List.mem_of_getElem? (i := 6) rfl)) (mr36 _ (List.mem_of_getElem? (i := 20) rfl)) (mr36 _ (List.mem_of_getElem? (i := 21) rfl)) (mr2 _ (List.mem_of_getElem? (i := 7) rfl)) (mr36 _ (List.mem_of_getElem? (i := 22) rfl)))) rfl rfl rfl (hN _ (List.mem_of_getElem? (i := 18) rfl)) (by decide +kernel) ⟨Nat.le_of_ble_eq_true rfl, Nat.le_of_ble_eq_true rfl⟩) (Wd.preV zo hA hZ hw hK m_r_5 o9 rfl) rfl rfl hl.1 rfl (lv_room (Nat.le_of_ble_eq_true rfl)) dX9_periodOf_35 ⟨Nat.le_of_ble_eq_true rfl, Nat.le_of_ble_eq_true rfl⟩) (fun x_6 L1 f1 H locs lx_6 ux_6 ex_6 hw => ?_)
        obtain ⟨rfl, rfl, ex_6⟩ := ex_6
        exact K35 x_6 lx_6 ux_6 ex_6 H locs hw
      · refine q_call_l hA hK hw (va_runU (As := []) (rest := []) ⟨hx, hb, hml, hown, hts⟩ (c_X8_cycle_f zo l D cy L0 f0 r_5 m_r_5 o9 hg kk nn ss vv ww (by have z9 := Option.some.inj (er_5.symm.trans er); rw [z9]; exact rk) _) (va_cwA 0 hts (gT (inU (mr36 _ (List.mem_of_getElem? (i := 5) rfl)) (mr36 _ (List.mem_of_getElem? (i := 6) rfl)) (mr36 _ (List.mem_of_getElem? (i := 23) rfl)) (mr37 _ (List.mem_of_getElem? (i := 0) rfl)) (mr12 _ (List.mem_of_getElem? (i := 15) rfl)) (mr37 _ (List.mem_of_getElem? (i := 1) rfl)))) rfl rfl rfl (hN _ (List.mem_of_getElem? (i := 18) rfl)) (by decide +kernel) ⟨Nat.le_of_ble_eq_true rfl, Nat.le_of_ble_eq_true rfl⟩) (Wd.preV zo hA hZ hw hK m_r_5 o9 rfl) rfl rfl hl.1 rfl (lv_room (Nat.le_of_ble_eq_true rfl)) dX9_periodOf_35 ⟨Nat.le_of_ble_eq_true rfl, Nat.le_of_ble_eq_true rfl⟩) (fun x_6 L1 f1 H locs lx_6 ux_6 ex_6 hw => ?_)
        obtain ⟨rfl, rfl, ex_6⟩ := ex_6
        exact K35 x_6 lx_6 ux_6 ex_6 H locs hw
    · refine q_iconst hx hb dX9_periodOf_22 ?_
      exact q_ret_i hx hb hr hlocks hK hAe hw ⟨by decide, by decide⟩ (Nat.le_of_ble_eq_true rfl) (Nat.le_of_ble_eq_true rfl) dX9_periodOf_23 ⟨rfl, rfl, by exact Or.inl ⟨by omega, by omega⟩⟩
set_option maxHeartbeats 4000000 in
set_option maxRecDepth 100000 in
theorem c_X10_gcd_f {Z : Zt} (zo : Zok Z) (l : Launch) (D : va_G) (cy : Cy) (L0 : List Nat) (f0 : Nat → va_E) (j0 : Int) (lj0 : -9223372036854775808 ≤ j0) (uj0 : j0 ≤ 9223372036854775807) (j2 : Int) (lj2 : -9223372036854775808 ≤ j2) (uj2 : j2 ≤ 9223372036854775807) (a1 : 0 ≤ j0) (a2 : 0 ≤ j2) : Cl Z l yX10_gcd (Cond.code yX10_gcd cX10_gcd 10 (some .long) :: TB) ({ frames := 0, cells := 0, slots := 0, locals := 0 } : Room) 0 0 D (tq cy) [.long (lJ j0), .long (lJ j2)] L0 f0 (fun (r : Int) (L1 : List Nat) (f1 : Nat → va_E) => L0 = L1 ∧ f0 = f1 ∧ (r = gc j0 j2)) := by
  refine Cl.enter (cc := cX10_gcd) (n := 10) rfl (plainFor_of_name (by decide)) (Nat.le_of_ble_eq_true rfl) ?_
  intro p e s m below meth c ls A hx hb hr hts hown hlocks hnm hml hK hA hAe hw hZ hl
  have hown : s.vm.findClass RX10 = some m.cls := hown
  have hl : lv_has ls 10 [(0, .long (lJ j0)), (2, .long (lJ j2))] := hl
  have hN : ZN s := (zo.2.2.2.2 _ _ _ hZ).2
  refine lv_lload_n hx hb dX10_gcd_0 rfl (lv_at hl 0 rfl) ?_
  refine lv_lstore (lv' := [(4, .long (lJ j0)), (0, .long (lJ j0)), (2, .long (lJ j2))]) hx hb dX10_gcd_1 hl (by decide) rfl (fun ls hl => ?_)
  refine lv_lload_n hx hb dX10_gcd_3 rfl (lv_at hl 2 rfl) ?_
  refine lv_lstore (lv' := [(6, .long (lJ j2)), (4, .long (lJ j0)), (0, .long (lJ j0)), (2, .long (lJ j2))]) hx hb dX10_gcd_4 hl (by decide) rfl (fun ls hl => ?_)
  have J6 : ∀ (n6 : Nat) (y4_6 : Int) (ly4_6 : -9223372036854775808 ≤ y4_6) (uy4_6 : y4_6 ≤ 9223372036854775807) (y6_6 : Int) (ly6_6 : -9223372036854775808 ≤ y6_6) (uy6_6 : y6_6 ≤ 9223372036854775807) (i1 : 0 ≤ y4_6) (i2 : 0 ≤ y6_6) (i3 : gc y4_6 y6_6 = gc j0 j2) (hn6 : (y6_6).toNat < n6) (H : Heap) (locs : List Loc) (ls : Array Slot) (hw : Wd D A s.heap L0 f0 H locs) (hl : lv_has ls 10 [(4, .long (lJ y4_6)), (6, .long (lJ y6_6))]), W p l e ({ frames := 0, cells := 0, slots := 0, locals := 0 } : Room) s m ([.long (lJ j0), .long (lJ j2)] : List Value).toArray below meth c H locs (0) (0) (MQ below (Ql D (tq cy) L0 f0 s.heap.size (fun (r : Int) (L1 : List Nat) (f1 : Nat → va_E) => L0 = L1 ∧ f0 = f1 ∧ (r = gc j0 j2))) ([.long (lJ j0), .long (lJ j2)] : List Value).toArray s 0 0 A) (F0 m 6 ls []) := by
    intro n6
    induction n6 with
    | zero => intro y4_6 ly4_6 uy4_6 y6_6 ly6_6 uy6_6 i1 i2 i3 hn6; exact absurd hn6 (Nat.not_lt_zero _)
    | succ n6 ih6 =>
      intro y4_6 ly4_6 uy4_6 y6_6 ly6_6 uy6_6 i1 i2 i3 hn6 H locs ls hw hl
      refine lv_lload hx hb dX10_gcd_6 (lv_at hl 1 rfl) ?_
      refine q_lconst0 hx hb dX10_gcd_8 ?_
      refine q_lcmp hx hb dX10_gcd_9 ⟨ly6_6, uy6_6⟩ ⟨by decide, by decide⟩ (fun x_1 lx_1 ux_1 ex_1 => ?_)
      refine q_if_eq (tgt := 31) hx hb dX10_gcd_10 (by decide) ⟨lx_1, ux_1⟩ (fun c10 => ?_) (fun c10 => ?_)
      · refine lv_lload hx hb dX10_gcd_31 (lv_at hl 0 rfl) ?_
        exact q_ret_l hx hb hr hlocks hK hAe hw ⟨ly4_6, uy4_6⟩ (Nat.le_of_ble_eq_true rfl) (Nat.le_of_ble_eq_true rfl) dX10_gcd_33 ⟨rfl, rfl, by exact gc_end i1 i3 (by omega)⟩
      · refine lv_lload hx hb dX10_gcd_13 (lv_at hl 0 rfl) ?_
        refine lv_lload hx hb dX10_gcd_15 (lv_at hl 1 rfl) ?_
        first | refine q_lrem hx hb dX10_gcd_17 ⟨ly4_6, uy4_6⟩ ⟨ly6_6, uy6_6⟩ (by omega) (by omega) (fun j_2 lj_2 uj_2 ej_2 => ?_) | refine q_lremw hx hb dX10_gcd_17 ⟨ly4_6, uy4_6⟩ ⟨ly6_6, uy6_6⟩ (by omega) (fun j_2 lj_2 uj_2 ej_2 => ?_)
        have h17 := ej_2.1
        refine lv_lstore (lv' := [(8, .long (lJ j_2)), (4, .long (lJ y4_6)), (6, .long (lJ y6_6))]) hx hb dX10_gcd_18 hl (by decide) rfl (fun ls hl => ?_)
        refine lv_lload hx hb dX10_gcd_20 (lv_at hl 2 rfl) ?_
        refine lv_lstore (lv' := [(4, .long (lJ y6_6)), (8, .long (lJ j_2)), (6, .long (lJ y6_6))]) hx hb dX10_gcd_22 hl (by decide) rfl (fun ls hl => ?_)
        refine lv_lload hx hb dX10_gcd_24 (lv_at hl 1 rfl) ?_
        refine lv_lstore (lv' := [(6, .long (lJ j_2)), (4, .long (lJ y6_6)), (8, .long (lJ j_2))]) hx hb dX10_gcd_26 hl (by decide) rfl (fun ls hl => ?_)
        refine lv_goto (tgt := 6) hx hb dX10_gcd_28 (by decide) ?_
        exact ih6 y6_6 ly6_6 uy6_6 j_2 lj_2 uj_2 (by omega) (by omega) (by first | rfl | (rw [h17, gc_step i1 (by omega)]; exact i3) | fail "none") (by omega) _ _ _ hw (lv_sub hl [1, 0] rfl)
  exact J6 (((j2).toNat) + 1) j0 lj0 uj0 j2 lj2 uj2 (by omega) (by omega) (by first | rfl | (rw [h17, gc_step i1 (by omega)]; exact i3) | fail "none") (by omega) _ _ _ hw (lv_sub hl [1, 0] rfl)
set_option maxHeartbeats 4000000 in
set_option maxRecDepth 100000 in
theorem c_X10_asInt_f {Z : Zt} (zo : Zok Z) (l : Launch) (D : va_G) (cy : Cy) (L0 : List Nat) (f0 : Nat → va_E) (j0 : Int) (lj0 : -9223372036854775808 ≤ j0) (uj0 : j0 ≤ 9223372036854775807) (a1 : 0 ≤ j0) : Ci Z l yX10_asInt (Cond.code yX10_asInt cX10_asInt 2 (some .int) :: TB) ({ frames := 0, cells := 0, slots := 0, locals := 0 } : Room) 0 0 D (tq cy) [.long (lJ j0)] L0 f0 (fun (r : Int) (L1 : List Nat) (f1 : Nat → va_E) => L0 = L1 ∧ f0 = f1 ∧ (r = asF j0)) := by
  refine Ci.enter (cc := cX10_asInt) (n := 2) rfl (plainFor_of_name (by decide)) (Nat.le_of_ble_eq_true rfl) ?_
  intro p e s m below meth c ls A hx hb hr hts hown hlocks hnm hml hK hA hAe hw hZ hl
  have hown : s.vm.findClass RX10 = some m.cls := hown
  have hl : lv_has ls 2 [(0, .long (lJ j0))] := hl
  have hN : ZN s := (zo.2.2.2.2 _ _ _ hZ).2
  refine lv_lload_n hx hb dX10_asInt_0 rfl (lv_at hl 0 rfl) ?_
  refine q_ldc2 (n := 2147483647) hx hb hown (hts _ (List.mem_cons_of_mem _ (mr42 _ (List.mem_of_getElem? (i := 7) rfl)))) rfl dX10_asInt_1 ?_
  refine q_lcmp hx hb dX10_asInt_4 ⟨lj0, uj0⟩ ⟨by decide, by decide⟩ (fun x_1 lx_1 ux_1 ex_1 => ?_)
  refine q_if_le (tgt := 13) hx hb dX10_asInt_5 (by decide) ⟨lx_1, ux_1⟩ (fun c5 => ?_) (fun c5 => ?_)
  · refine lv_lload_n hx hb dX10_asInt_13 rfl (lv_at hl 0 rfl) ?_
    refine q_l2iv hx hb dX10_asInt_14 (fun x_2 lx_2 ux_2 ex_2 => ?_)
    have h14 := ex_2
    exact q_ret_i hx hb hr hlocks hK hAe hw ⟨lx_2, ux_2⟩ (Nat.le_of_ble_eq_true rfl) (Nat.le_of_ble_eq_true rfl) dX10_asInt_15 ⟨rfl, rfl, by first | exact as_hi (by omega) | exact as_lo a1 (by omega) h14 | fail "none"⟩
  · refine q_bipush hx hb dX10_asInt_8 rfl ?_
    refine lv_goto (tgt := 15) hx hb dX10_asInt_10 (by decide) ?_
    exact q_ret_i hx hb hr hlocks hK hAe hw ⟨by decide, by decide⟩ (Nat.le_of_ble_eq_true rfl) (Nat.le_of_ble_eq_true rfl) dX10_asInt_15 ⟨rfl, rfl, by first | exact as_hi (by omega) | exact as_lo a1 (by omega) h14 | fail "none"⟩
set_option maxHeartbeats 4000000 in
set_option maxRecDepth 100000 in
theorem c_X10_periodFor_f {Z : Zt} (zo : Zok Z) (l : Launch) (D : va_G) (cy : Cy) (L0 : List Nat) (f0 : Nat → va_E) (a0 : Nat) (x1 : Int) (lx1 : -2147483648 ≤ x1) (ux1 : x1 ≤ 2147483647) (ad : Nat → Nat) (hs : MS cy L0 f0 a0 ad) (b1 : 0 ≤ x1) (b2 : x1 ≤ 11) (ok : okW (aI f0 (ad 4) (44 * x1 + 3)) (aI f0 (ad 4) (44 * x1 + 4)) (aI f0 (ad 4) (44 * x1 + 6)) (aI f0 (ad 4) (44 * x1 + 7))) : Cl Z l yX10_periodFor (Cond.code yX10_periodFor cX10_periodFor 4 (some .long) :: TB) ({ frames := 1, cells := 0, slots := 0, locals := 29 } : Room) 0 0 D (tq cy) [.ref a0, .int (iI x1)] L0 f0 (fun (r : Int) (L1 : List Nat) (f1 : Nat → va_E) => L0 = L1 ∧ f0 = f1 ∧ (r = cyK (aI f0 (ad 4) (44 * x1 + 3)) (aI f0 (ad 4) (44 * x1 + 4)))) := by
  refine Cl.enter (cc := cX10_periodFor) (n := 4) rfl (plainFor_of_name (by decide)) (Nat.le_of_ble_eq_true rfl) ?_
  intro p e s m below meth c ls A hx hb hr hts hown hlocks hnm hml hK hA hAe hw hZ hl
  have hown : s.vm.findClass RX10 = some m.cls := hown
  have hl : lv_has ls 4 [(0, .ref a0), (1, .int (iI x1))] := hl
  have hN : ZN s := (zo.2.2.2.2 _ _ _ hZ).2
  have ok1 := ok.1
  have ok2 := ok.2.1
  have ok3 := ok.2.2.1
  refine lv_aload_n hx hb dX10_periodFor_0 rfl (lv_at hl 0 rfl) ?_
  refine lv_iload_n hx hb dX10_periodFor_1 rfl (lv_at hl 1 rfl) ?_
  refine q_iconst hx hb dX10_periodFor_2 ?_
  refine q_call_i hA hK hw (va_runV (As := [.int (iI x1), .int (iI 4)]) (rest := []) ⟨hx, hb, hml, hown, hts⟩ (c_X10_get zo l D cy L0 f0 a0 x1 lx1 ux1 4 (by decide) (by decide) ad hs (by omega) (by omega) (by omega) (by omega) _) (cwV 2 hts (gT (inV (mr25 _ (List.mem_of_getElem? (i := 0) rfl)) (mr25 _ (List.mem_of_getElem? (i := 1) rfl)) (mr25 _ (List.mem_of_getElem? (i := 2) rfl)) (mr1 _ (List.mem_of_getElem? (i := 5) rfl)) (mr25 _ (List.mem_of_getElem? (i := 3) rfl)))) rfl rfl rfl (by decide +kernel) ⟨Nat.le_of_ble_eq_true rfl, Nat.le_of_ble_eq_true rfl⟩) (Wd.preV zo hA hZ hw hK hs.1 hs.2.1 rfl) rfl rfl hl.1 rfl (lv_room (Nat.le_of_ble_eq_true rfl)) dX10_periodFor_3 ⟨Nat.le_of_ble_eq_true rfl, Nat.le_of_ble_eq_true rfl⟩) (fun x_1 L1 f1 H locs lx_1 ux_1 ex_1 hw => ?_)
  obtain ⟨rfl, rfl, ex_1⟩ := ex_1
  have h3 := ex_1
  refine q_i2l hx hb dX10_periodFor_6 ⟨lx_1, ux_1⟩ ?_
  obtain ⟨j_2, lj_2, uj_2, ej_2⟩ : ∃ z : Int, -9223372036854775808 ≤ z ∧ z ≤ 9223372036854775807 ∧ x_1 = z := ⟨x_1, by omega, by omega, rfl⟩
  rw [show (lJ x_1) = lJ j_2 from by rw [ej_2]]
  have h6 := ej_2
  refine lv_lstore_n (lv' := [(2, .long (lJ j_2)), (0, .ref a0), (1, .int (iI x1))]) hx hb dX10_periodFor_7 rfl hl (by decide) rfl (fun ls hl => ?_)
  refine lv_aload_n hx hb dX10_periodFor_8 rfl (lv_at hl 1 rfl) ?_
  refine lv_iload_n hx hb dX10_periodFor_9 rfl (lv_at hl 2 rfl) ?_
  refine q_iconst hx hb dX10_periodFor_10 ?_
  refine q_call_i hA hK hw (va_runV (As := [.int (iI x1), .int (iI 3)]) (rest := []) ⟨hx, hb, hml, hown, hts⟩ (c_X10_get zo l D cy L0 f0 a0 x1 lx1 ux1 3 (by decide) (by decide) ad hs (by omega) (by omega) (by omega) (by omega) _) (cwV 2 hts (gT (inV (mr25 _ (List.mem_of_getElem? (i := 0) rfl)) (mr25 _ (List.mem_of_getElem? (i := 1) rfl)) (mr25 _ (List.mem_of_getElem? (i := 2) rfl)) (mr1 _ (List.mem_of_getElem? (i := 5) rfl)) (mr25 _ (List.mem_of_getElem? (i := 3) rfl)))) rfl rfl rfl (by decide +kernel) ⟨Nat.le_of_ble_eq_true rfl, Nat.le_of_ble_eq_true rfl⟩) (Wd.preV zo hA hZ hw hK hs.1 hs.2.1 rfl) rfl rfl hl.1 rfl (lv_room (Nat.le_of_ble_eq_true rfl)) dX10_periodFor_11 ⟨Nat.le_of_ble_eq_true rfl, Nat.le_of_ble_eq_true rfl⟩) (fun x_3 L1 f1 H locs lx_3 ux_3 ex_3 hw => ?_)
  obtain ⟨rfl, rfl, ex_3⟩ := ex_3
  have h11 := ex_3
  have t14 : (iI x_3).toInt = x_3 := iI_toInt ⟨lx_3, ux_3⟩
  rcases (show (x_3 < 0 ∨ 7 < x_3) ∨ (x_3 = 0) ∨ (x_3 = 1) ∨ (x_3 = 2) ∨ (x_3 = 3) ∨ (x_3 = 4) ∨ (x_3 = 5) ∨ (x_3 = 6) ∨ (x_3 = 7) by omega) with k14 | k14 | k14 | k14 | k14 | k14 | k14 | k14 | k14
  · refine lv_tableOut (tgt := 92) hx hb dX10_periodFor_14 (by rw [t14]; omega) (by decide) ?_
    refine q_ldc2 (n := 146097) hx hb hown (hts _ (List.mem_cons_of_mem _ (mr41 _ (List.mem_of_getElem? (i := 22) rfl)))) rfl dX10_periodFor_92 ?_
    refine lv_lload_n hx hb dX10_periodFor_95 rfl (lv_at hl 0 rfl) ?_
    refine lv_lload_n hx hb dX10_periodFor_96 rfl (lv_at hl 0 rfl) ?_
    refine q_ldc2 (n := 4800) hx hb hown (hts _ (List.mem_cons_of_mem _ (mr42 _ (List.mem_of_getElem? (i := 0) rfl)))) rfl dX10_periodFor_97 ?_
    refine q_call_l hA hK hw (va_runS (As := [.long (lJ j_2), .long (lJ 4800)]) (rest := [.long (lJ j_2), .long (lJ 146097)]) ⟨hx, hb, hml, hown, hts⟩ (c_X10_gcd_f zo l D cy L0 f0 j_2 lj_2 uj_2 4800 (by decide) (by decide) (by omega) (by omega) _) (va_cwS 2 hts (gT (inS (mr42 _ (List.mem_of_getElem? (i := 1) rfl)) (mr42 _ (List.mem_of_getElem? (i := 2) rfl)) (mr1 _ (List.mem_of_getElem? (i := 5) rfl)) (mr42 _ (List.mem_of_getElem? (i := 3) rfl)))) rfl rfl rfl (by decide +kernel) ⟨Nat.le_of_ble_eq_true rfl, Nat.le_of_ble_eq_true rfl⟩) (Wd.preS zo hA hZ hw hK) rfl rfl hl.1 rfl (lv_room (Nat.le_of_ble_eq_true rfl)) dX10_periodFor_100 ⟨Nat.le_of_ble_eq_true rfl, Nat.le_of_ble_eq_true rfl⟩) (fun x_4 L1 f1 H locs lx_4 ux_4 ex_4 hw => ?_)
    obtain ⟨rfl, rfl, ex_4⟩ := ex_4
    have h100 := ex_4
    have g100 : 0 < x_4 := by rw [h100]; exact gc_pos2 (by decide)
    first | refine q_ldiv hx hb dX10_periodFor_103 ⟨lj_2, uj_2⟩ ⟨lx_4, ux_4⟩ (by omega) (by omega) (fun j_5 lj_5 uj_5 ej_5 => ?_) | refine q_ldivw hx hb dX10_periodFor_103 ⟨lj_2, uj_2⟩ ⟨lx_4, ux_4⟩ (by omega) (fun j_5 lj_5 uj_5 ej_5 => ?_)
    have h103 := ej_5
    first | refine q_lmul hx hb dX10_periodFor_104 ⟨by omega, by omega⟩ (fun j_6 lj_6 uj_6 ej_6 => ?_) | refine q_lmulw hx hb dX10_periodFor_104 (fun j_6 lj_6 uj_6 ej_6 => ?_)
    exact q_ret_l hx hb hr hlocks hK hAe hw ⟨lj_6, uj_6⟩ (Nat.le_of_ble_eq_true rfl) (Nat.le_of_ble_eq_true rfl) dX10_periodFor_105 ⟨rfl, rfl, by rw [cy_m (by omega) (by omega), show aI f0 (ad 4) (44 * x1 + 4) = j_2 by omega, ← h100, ← h103.1]; exact ej_6⟩
  · refine lv_tableIn (tgt := 60) (off := 46) hx hb dX10_periodFor_14 (by rw [t14]; omega) (by rw [t14]; omega) (by rw [t14, k14]; rfl) (by decide) ?_
    refine q_lconst0 hx hb dX10_periodFor_60 ?_
    exact q_ret_l hx hb hr hlocks hK hAe hw ⟨by decide, by decide⟩ (Nat.le_of_ble_eq_true rfl) (Nat.le_of_ble_eq_true rfl) dX10_periodFor_61 ⟨rfl, rfl, by exact (cy_0 (by omega)).symm⟩
  · refine lv_tableIn (tgt := 62) (off := 48) hx hb dX10_periodFor_14 (by rw [t14]; omega) (by rw [t14]; omega) (by rw [t14, k14]; rfl) (by decide) ?_
    refine lv_lload_n hx hb dX10_periodFor_62 rfl (lv_at hl 0 rfl) ?_
    exact q_ret_l hx hb hr hlocks hK hAe hw ⟨lj_2, uj_2⟩ (Nat.le_of_ble_eq_true rfl) (Nat.le_of_ble_eq_true rfl) dX10_periodFor_63 ⟨rfl, rfl, by rw [cy_1 (by omega)]; omega⟩
  · refine lv_tableIn (tgt := 64) (off := 50) hx hb dX10_periodFor_14 (by rw [t14]; omega) (by rw [t14]; omega) (by rw [t14, k14]; rfl) (by decide) ?_
    refine q_ldc2 (n := 7) hx hb hown (hts _ (List.mem_cons_of_mem _ (mr41 _ (List.mem_of_getElem? (i := 21) rfl)))) rfl dX10_periodFor_64 ?_
    refine lv_lload_n hx hb dX10_periodFor_67 rfl (lv_at hl 0 rfl) ?_
    first | refine q_lmul hx hb dX10_periodFor_68 ⟨by omega, by omega⟩ (fun j_7 lj_7 uj_7 ej_7 => ?_) | refine q_lmulw hx hb dX10_periodFor_68 (fun j_7 lj_7 uj_7 ej_7 => ?_)
    exact q_ret_l hx hb hr hlocks hK hAe hw ⟨lj_7, uj_7⟩ (Nat.le_of_ble_eq_true rfl) (Nat.le_of_ble_eq_true rfl) dX10_periodFor_69 ⟨rfl, rfl, by rw [cy_2 (by omega)]; omega⟩
  · refine lv_tableIn (tgt := 92) (off := 78) hx hb dX10_periodFor_14 (by rw [t14]; omega) (by rw [t14]; omega) (by rw [t14, k14]; rfl) (by decide) ?_
    refine q_ldc2 (n := 146097) hx hb hown (hts _ (List.mem_cons_of_mem _ (mr41 _ (List.mem_of_getElem? (i := 22) rfl)))) rfl dX10_periodFor_92 ?_
    refine lv_lload_n hx hb dX10_periodFor_95 rfl (lv_at hl 0 rfl) ?_
    refine lv_lload_n hx hb dX10_periodFor_96 rfl (lv_at hl 0 rfl) ?_
    refine q_ldc2 (n := 4800) hx hb hown (hts _ (List.mem_cons_of_mem _ (mr42 _ (List.mem_of_getElem? (i := 0) rfl)))) rfl dX10_periodFor_97 ?_
    refine q_call_l hA hK hw (va_runS (As := [.long (lJ j_2), .long (lJ 4800)]) (rest := [.long (lJ j_2), .long (lJ 146097)]) ⟨hx, hb, hml, hown, hts⟩ (c_X10_gcd_f zo l D cy L0 f0 j_2 lj_2 uj_2 4800 (by decide) (by decide) (by omega) (by omega) _) (va_cwS 2 hts (gT (inS (mr42 _ (List.mem_of_getElem? (i := 1) rfl)) (mr42 _ (List.mem_of_getElem? (i := 2) rfl)) (mr1 _ (List.mem_of_getElem? (i := 5) rfl)) (mr42 _ (List.mem_of_getElem? (i := 3) rfl)))) rfl rfl rfl (by decide +kernel) ⟨Nat.le_of_ble_eq_true rfl, Nat.le_of_ble_eq_true rfl⟩) (Wd.preS zo hA hZ hw hK) rfl rfl hl.1 rfl (lv_room (Nat.le_of_ble_eq_true rfl)) dX10_periodFor_100 ⟨Nat.le_of_ble_eq_true rfl, Nat.le_of_ble_eq_true rfl⟩) (fun x_8 L1 f1 H locs lx_8 ux_8 ex_8 hw => ?_)
    obtain ⟨rfl, rfl, ex_8⟩ := ex_8
    have h100 := ex_8
    have g100 : 0 < x_8 := by rw [h100]; exact gc_pos2 (by decide)
    first | refine q_ldiv hx hb dX10_periodFor_103 ⟨lj_2, uj_2⟩ ⟨lx_8, ux_8⟩ (by omega) (by omega) (fun j_9 lj_9 uj_9 ej_9 => ?_) | refine q_ldivw hx hb dX10_periodFor_103 ⟨lj_2, uj_2⟩ ⟨lx_8, ux_8⟩ (by omega) (fun j_9 lj_9 uj_9 ej_9 => ?_)
    have h103 := ej_9
    first | refine q_lmul hx hb dX10_periodFor_104 ⟨by omega, by omega⟩ (fun j_10 lj_10 uj_10 ej_10 => ?_) | refine q_lmulw hx hb dX10_periodFor_104 (fun j_10 lj_10 uj_10 ej_10 => ?_)
    exact q_ret_l hx hb hr hlocks hK hAe hw ⟨lj_10, uj_10⟩ (Nat.le_of_ble_eq_true rfl) (Nat.le_of_ble_eq_true rfl) dX10_periodFor_105 ⟨rfl, rfl, by rw [cy_m (by omega) (by omega), show aI f0 (ad 4) (44 * x1 + 4) = j_2 by omega, ← h100, ← h103.1]; exact ej_10⟩
  · refine lv_tableIn (tgt := 92) (off := 78) hx hb dX10_periodFor_14 (by rw [t14]; omega) (by rw [t14]; omega) (by rw [t14, k14]; rfl) (by decide) ?_
    refine q_ldc2 (n := 146097) hx hb hown (hts _ (List.mem_cons_of_mem _ (mr41 _ (List.mem_of_getElem? (i := 22) rfl)))) rfl dX10_periodFor_92 ?_
    refine lv_lload_n hx hb dX10_periodFor_95 rfl (lv_at hl 0 rfl) ?_
    refine lv_lload_n hx hb dX10_periodFor_96 rfl (lv_at hl 0 rfl) ?_
    refine q_ldc2 (n := 4800) hx hb hown (hts _ (List.mem_cons_of_mem _ (mr42 _ (List.mem_of_getElem? (i := 0) rfl)))) rfl dX10_periodFor_97 ?_
    refine q_call_l hA hK hw (va_runS (As := [.long (lJ j_2), .long (lJ 4800)]) (rest := [.long (lJ j_2), .long (lJ 146097)]) ⟨hx, hb, hml, hown, hts⟩ (c_X10_gcd_f zo l D cy L0 f0 j_2 lj_2 uj_2 4800 (by decide) (by decide) (by omega) (by omega) _) (va_cwS 2 hts (gT (inS (mr42 _ (List.mem_of_getElem? (i := 1) rfl)) (mr42 _ (List.mem_of_getElem? (i := 2) rfl)) (mr1 _ (List.mem_of_getElem? (i := 5) rfl)) (mr42 _ (List.mem_of_getElem? (i := 3) rfl)))) rfl rfl rfl (by decide +kernel) ⟨Nat.le_of_ble_eq_true rfl, Nat.le_of_ble_eq_true rfl⟩) (Wd.preS zo hA hZ hw hK) rfl rfl hl.1 rfl (lv_room (Nat.le_of_ble_eq_true rfl)) dX10_periodFor_100 ⟨Nat.le_of_ble_eq_true rfl, Nat.le_of_ble_eq_true rfl⟩) (fun x_11 L1 f1 H locs lx_11 ux_11 ex_11 hw => ?_)
    obtain ⟨rfl, rfl, ex_11⟩ := ex_11
    have h100 := ex_11
    have g100 : 0 < x_11 := by rw [h100]; exact gc_pos2 (by decide)
    first | refine q_ldiv hx hb dX10_periodFor_103 ⟨lj_2, uj_2⟩ ⟨lx_11, ux_11⟩ (by omega) (by omega) (fun j_12 lj_12 uj_12 ej_12 => ?_) | refine q_ldivw hx hb dX10_periodFor_103 ⟨lj_2, uj_2⟩ ⟨lx_11, ux_11⟩ (by omega) (fun j_12 lj_12 uj_12 ej_12 => ?_)
    have h103 := ej_12
    first | refine q_lmul hx hb dX10_periodFor_104 ⟨by omega, by omega⟩ (fun j_13 lj_13 uj_13 ej_13 => ?_) | refine q_lmulw hx hb dX10_periodFor_104 (fun j_13 lj_13 uj_13 ej_13 => ?_)
    exact q_ret_l hx hb hr hlocks hK hAe hw ⟨lj_13, uj_13⟩ (Nat.le_of_ble_eq_true rfl) (Nat.le_of_ble_eq_true rfl) dX10_periodFor_105 ⟨rfl, rfl, by rw [cy_m (by omega) (by omega), show aI f0 (ad 4) (44 * x1 + 4) = j_2 by omega, ← h100, ← h103.1]; exact ej_13⟩
  · refine lv_tableIn (tgt := 92) (off := 78) hx hb dX10_periodFor_14 (by rw [t14]; omega) (by rw [t14]; omega) (by rw [t14, k14]; rfl) (by decide) ?_
    refine q_ldc2 (n := 146097) hx hb hown (hts _ (List.mem_cons_of_mem _ (mr41 _ (List.mem_of_getElem? (i := 22) rfl)))) rfl dX10_periodFor_92 ?_
    refine lv_lload_n hx hb dX10_periodFor_95 rfl (lv_at hl 0 rfl) ?_
    refine lv_lload_n hx hb dX10_periodFor_96 rfl (lv_at hl 0 rfl) ?_
    refine q_ldc2 (n := 4800) hx hb hown (hts _ (List.mem_cons_of_mem _ (mr42 _ (List.mem_of_getElem? (i := 0) rfl)))) rfl dX10_periodFor_97 ?_
    refine q_call_l hA hK hw (va_runS (As := [.long (lJ j_2), .long (lJ 4800)]) (rest := [.long (lJ j_2), .long (lJ 146097)]) ⟨hx, hb, hml, hown, hts⟩ (c_X10_gcd_f zo l D cy L0 f0 j_2 lj_2 uj_2 4800 (by decide) (by decide) (by omega) (by omega) _) (va_cwS 2 hts (gT (inS (mr42 _ (List.mem_of_getElem? (i := 1) rfl)) (mr42 _ (List.mem_of_getElem? (i := 2) rfl)) (mr1 _ (List.mem_of_getElem? (i := 5) rfl)) (mr42 _ (List.mem_of_getElem? (i := 3) rfl)))) rfl rfl rfl (by decide +kernel) ⟨Nat.le_of_ble_eq_true rfl, Nat.le_of_ble_eq_true rfl⟩) (Wd.preS zo hA hZ hw hK) rfl rfl hl.1 rfl (lv_room (Nat.le_of_ble_eq_true rfl)) dX10_periodFor_100 ⟨Nat.le_of_ble_eq_true rfl, Nat.le_of_ble_eq_true rfl⟩) (fun x_14 L1 f1 H locs lx_14 ux_14 ex_14 hw => ?_)
    obtain ⟨rfl, rfl, ex_14⟩ := ex_14
    have h100 := ex_14
    have g100 : 0 < x_14 := by rw [h100]; exact gc_pos2 (by decide)
    first | refine q_ldiv hx hb dX10_periodFor_103 ⟨lj_2, uj_2⟩ ⟨lx_14, ux_14⟩ (by omega) (by omega) (fun j_15 lj_15 uj_15 ej_15 => ?_) | refine q_ldivw hx hb dX10_periodFor_103 ⟨lj_2, uj_2⟩ ⟨lx_14, ux_14⟩ (by omega) (fun j_15 lj_15 uj_15 ej_15 => ?_)
    have h103 := ej_15
    first | refine q_lmul hx hb dX10_periodFor_104 ⟨by omega, by omega⟩ (fun j_16 lj_16 uj_16 ej_16 => ?_) | refine q_lmulw hx hb dX10_periodFor_104 (fun j_16 lj_16 uj_16 ej_16 => ?_)
    exact q_ret_l hx hb hr hlocks hK hAe hw ⟨lj_16, uj_16⟩ (Nat.le_of_ble_eq_true rfl) (Nat.le_of_ble_eq_true rfl) dX10_periodFor_105 ⟨rfl, rfl, by rw [cy_m (by omega) (by omega), show aI f0 (ad 4) (44 * x1 + 4) = j_2 by omega, ← h100, ← h103.1]; exact ej_16⟩
  · refine lv_tableIn (tgt := 92) (off := 78) hx hb dX10_periodFor_14 (by rw [t14]; omega) (by rw [t14]; omega) (by rw [t14, k14]; rfl) (by decide) ?_
    refine q_ldc2 (n := 146097) hx hb hown (hts _ (List.mem_cons_of_mem _ (mr41 _ (List.mem_of_getElem? (i := 22) rfl)))) rfl dX10_periodFor_92 ?_
    refine lv_lload_n hx hb dX10_periodFor_95 rfl (lv_at hl 0 rfl) ?_
    refine lv_lload_n hx hb dX10_periodFor_96 rfl (lv_at hl 0 rfl) ?_
    refine q_ldc2 (n := 4800) hx hb hown (hts _ (List.mem_cons_of_mem _ (mr42 _ (List.mem_of_getElem? (i := 0) rfl)))) rfl dX10_periodFor_97 ?_
    refine q_call_l hA hK hw (va_runS (As := [.long (lJ j_2), .long (lJ 4800)]) (rest := [.long (lJ j_2), .long (lJ 146097)]) ⟨hx, hb, hml, hown, hts⟩ (c_X10_gcd_f zo l D cy L0 f0 j_2 lj_2 uj_2 4800 (by decide) (by decide) (by omega) (by omega) _) (va_cwS 2 hts (gT (inS (mr42 _ (List.mem_of_getElem? (i := 1) rfl)) (mr42 _ (List.mem_of_getElem? (i := 2) rfl)) (mr1 _ (List.mem_of_getElem? (i := 5) rfl)) (mr42 _ (List.mem_of_getElem? (i := 3) rfl)))) rfl rfl rfl (by decide +kernel) ⟨Nat.le_of_ble_eq_true rfl, Nat.le_of_ble_eq_true rfl⟩) (Wd.preS zo hA hZ hw hK) rfl rfl hl.1 rfl (lv_room (Nat.le_of_ble_eq_true rfl)) dX10_periodFor_100 ⟨Nat.le_of_ble_eq_true rfl, Nat.le_of_ble_eq_true rfl⟩) (fun x_17 L1 f1 H locs lx_17 ux_17 ex_17 hw => ?_)
    obtain ⟨rfl, rfl, ex_17⟩ := ex_17
    have h100 := ex_17
    have g100 : 0 < x_17 := by rw [h100]; exact gc_pos2 (by decide)
    first | refine q_ldiv hx hb dX10_periodFor_103 ⟨lj_2, uj_2⟩ ⟨lx_17, ux_17⟩ (by omega) (by omega) (fun j_18 lj_18 uj_18 ej_18 => ?_) | refine q_ldivw hx hb dX10_periodFor_103 ⟨lj_2, uj_2⟩ ⟨lx_17, ux_17⟩ (by omega) (fun j_18 lj_18 uj_18 ej_18 => ?_)
    have h103 := ej_18
    first | refine q_lmul hx hb dX10_periodFor_104 ⟨by omega, by omega⟩ (fun j_19 lj_19 uj_19 ej_19 => ?_) | refine q_lmulw hx hb dX10_periodFor_104 (fun j_19 lj_19 uj_19 ej_19 => ?_)
    exact q_ret_l hx hb hr hlocks hK hAe hw ⟨lj_19, uj_19⟩ (Nat.le_of_ble_eq_true rfl) (Nat.le_of_ble_eq_true rfl) dX10_periodFor_105 ⟨rfl, rfl, by rw [cy_m (by omega) (by omega), show aI f0 (ad 4) (44 * x1 + 4) = j_2 by omega, ← h100, ← h103.1]; exact ej_19⟩
  · refine lv_tableIn (tgt := 70) (off := 56) hx hb dX10_periodFor_14 (by rw [t14]; omega) (by rw [t14]; omega) (by rw [t14, k14]; rfl) (by decide) ?_
    refine q_ldc2 (n := 146097) hx hb hown (hts _ (List.mem_cons_of_mem _ (mr41 _ (List.mem_of_getElem? (i := 22) rfl)))) rfl dX10_periodFor_70 ?_
    refine q_ldc2 (n := 12) hx hb hown (hts _ (List.mem_cons_of_mem _ (mr41 _ (List.mem_of_getElem? (i := 23) rfl)))) rfl dX10_periodFor_73 ?_
    refine lv_lload_n hx hb dX10_periodFor_76 rfl (lv_at hl 0 rfl) ?_
    first | refine q_lmul hx hb dX10_periodFor_77 ⟨by omega, by omega⟩ (fun j_20 lj_20 uj_20 ej_20 => ?_) | refine q_lmulw hx hb dX10_periodFor_77 (fun j_20 lj_20 uj_20 ej_20 => ?_)
    refine q_ldc2 (n := 12) hx hb hown (hts _ (List.mem_cons_of_mem _ (mr41 _ (List.mem_of_getElem? (i := 23) rfl)))) rfl dX10_periodFor_78 ?_
    refine lv_lload_n hx hb dX10_periodFor_81 rfl (lv_at hl 0 rfl) ?_
    first | refine q_lmul hx hb dX10_periodFor_82 ⟨by omega, by omega⟩ (fun j_21 lj_21 uj_21 ej_21 => ?_) | refine q_lmulw hx hb dX10_periodFor_82 (fun j_21 lj_21 uj_21 ej_21 => ?_)
    refine q_ldc2 (n := 4800) hx hb hown (hts _ (List.mem_cons_of_mem _ (mr42 _ (List.mem_of_getElem? (i := 0) rfl)))) rfl dX10_periodFor_83 ?_
    refine q_call_l hA hK hw (va_runS (As := [.long (lJ j_21), .long (lJ 4800)]) (rest := [.long (lJ j_20), .long (lJ 146097)]) ⟨hx, hb, hml, hown, hts⟩ (c_X10_gcd_f zo l D cy L0 f0 j_21 lj_21 uj_21 4800 (by decide) (by decide) (by omega) (by omega) _) (va_cwS 2 hts (gT (inS (mr42 _ (List.mem_of_getElem? (i := 1) rfl)) (mr42 _ (List.mem_of_getElem? (i := 2) rfl)) (mr1 _ (List.mem_of_getElem? (i := 5) rfl)) (mr42 _ (List.mem_of_getElem? (i := 3) rfl)))) rfl rfl rfl (by decide +kernel) ⟨Nat.le_of_ble_eq_true rfl, Nat.le_of_ble_eq_true rfl⟩) (Wd.preS zo hA hZ hw hK) rfl rfl hl.1 rfl (lv_room (Nat.le_of_ble_eq_true rfl)) dX10_periodFor_86 ⟨Nat.le_of_ble_eq_true rfl, Nat.le_of_ble_eq_true rfl⟩) (fun x_22 L1 f1 H locs lx_22 ux_22 ex_22 hw => ?_)
    obtain ⟨rfl, rfl, ex_22⟩ := ex_22
    have h86 := ex_22
    have g86 : 0 < x_22 := by rw [h86]; exact gc_pos2 (by decide)
    first | refine q_ldiv hx hb dX10_periodFor_89 ⟨lj_20, uj_20⟩ ⟨lx_22, ux_22⟩ (by omega) (by omega) (fun j_23 lj_23 uj_23 ej_23 => ?_) | refine q_ldivw hx hb dX10_periodFor_89 ⟨lj_20, uj_20⟩ ⟨lx_22, ux_22⟩ (by omega) (fun j_23 lj_23 uj_23 ej_23 => ?_)
    have h89 := ej_23
    first | refine q_lmul hx hb dX10_periodFor_90 ⟨by omega, by omega⟩ (fun j_24 lj_24 uj_24 ej_24 => ?_) | refine q_lmulw hx hb dX10_periodFor_90 (fun j_24 lj_24 uj_24 ej_24 => ?_)
    exact q_ret_l hx hb hr hlocks hK hAe hw ⟨lj_24, uj_24⟩ (Nat.le_of_ble_eq_true rfl) (Nat.le_of_ble_eq_true rfl) dX10_periodFor_91 ⟨rfl, rfl, by rw [cy_7 (by omega), show 12 * aI f0 (ad 4) (44 * x1 + 4) = j_20 by omega, show gc j_20 4800 = gc j_21 4800 by rw [show j_20 = j_21 by omega], ← h86, ← h89.1]; exact ej_24⟩
set_option maxHeartbeats 4000000 in
set_option maxRecDepth 100000 in
theorem c_X10_period_f {Z : Zt} (zo : Zok Z) (l : Launch) (D : va_G) (cy : Cy) (L0 : List Nat) (f0 : Nat → va_E) (a0 : Nat) (x1 : Int) (lx1 : -2147483648 ≤ x1) (ux1 : x1 ≤ 2147483647) (ad : Nat → Nat) (hs : MS cy L0 f0 a0 ad) (hv : MV f0 a0 ad) (mo : MOk f0 a0 ad) : Ci Z l yX10_period (Cond.code yX10_period cX10_period 2 (some .int) :: TB) ({ frames := 2, cells := 0, slots := 0, locals := 52 } : Room) 0 0 D (tq cy) [.ref a0, .int (iI x1)] L0 f0 (fun (r : Int) (L1 : List Nat) (f1 : Nat → va_E) => L0 = L1 ∧ MS cy L0 f1 a0 ad ∧ Kp a0 ad [] [10] f0 f1 ∧ ((r = -1 ∧ (x1 < 0 ∨ fI f0 a0 5 ≤ x1)) ∨ (0 ≤ x1 ∧ x1 < fI f0 a0 5 ∧ r = asF (cyK (aI f0 (ad 4) (44 * x1 + 3)) (aI f0 (ad 4) (44 * x1 + 4)))))) := by
  refine Ci.enter (cc := cX10_period) (n := 2) rfl (plainFor_of_name (by decide)) (Nat.le_of_ble_eq_true rfl) ?_
  intro p e s m below meth c ls A hx hb hr hts hown hlocks hnm hml hK hA hAe hw hZ hl
  have hown : s.vm.findClass RX10 = some m.cls := hown
  have hl : lv_has ls 2 [(0, .ref a0), (1, .int (iI x1))] := hl
  have hN : ZN s := (zo.2.2.2.2 _ _ _ hZ).2
  have hE : Kp a0 ad [] [10] f0 f0 := Kp.refl _ _ _ _ _
  have m5 := hv.1
  have m6 := hv.2.1
  refine lv_aload_n hx hb dX10_period_0 rfl (lv_at hl 0 rfl) ?_
  refine q_iconst hx hb dX10_period_1 ?_
  refine q_puti (ci := 8) (C := RX10) (T := TX10) (N := 26) hx hb hts (fun w h => List.mem_cons_of_mem _ (mfX100 w h)) hown hK hw hs.1 hs.2.1 rfl 10 (by decide) (hts _ (List.mem_cons_of_mem _ (mr4 _ (List.mem_of_getElem? (i := 19) rfl)))) (fun _ h => h) tyX10 tyX10_ok nmX10 rfl (ty := .int) (by decide +kernel) rfl rfl dX10_period_2 (fun H locs hw => ?_)
  obtain ⟨f_1, ef_1⟩ : ∃ g : Nat → va_E, g = pU f0 a0 10 (.int (iI 0)) := ⟨_, rfl⟩
  have v10_f_1 : fI f_1 a0 10 = 0 := by rw [ef_1]; exact fI_pU_self hs.2.1 rfl ⟨by decide, by decide⟩
  have t5_f_1 : fI f_1 a0 5 = fI f0 a0 5 := by rw [ef_1]; exact fI_pU (Or.inr (by decide))
  have hE := hE.trans (show Kp a0 ad [] [10] f0 f_1 by rw [ef_1]; exact Kp_pU hs (by decide))
  have hs_ := hs
  have hs : MS cy L0 f_1 a0 ad := by rw [ef_1]; exact MS_pU hs rfl
  rw [← ef_1] at hw
  have Q4a : aI f_1 (ad 4) = aI f0 (ad 4) := funext fun x => by rw [ef_1]; exact hs_.aI_pU _ x
  refine lv_aload_n hx hb dX10_period_5 rfl (lv_at hl 0 rfl) ?_
  refine lv_iload_n hx hb dX10_period_6 rfl (lv_at hl 1 rfl) ?_
  refine q_call_i hA hK hw (va_runV (As := [.int (iI x1)]) (rest := []) ⟨hx, hb, hml, hown, hts⟩ (c_X10_isBooking zo l D cy L0 f_1 a0 x1 lx1 ux1 ad hs (by omega) _) (cwV 1 hts (gT (inV (mr22 _ (List.mem_of_getElem? (i := 21) rfl)) (mr22 _ (List.mem_of_getElem? (i := 22) rfl)) (mr22 _ (List.mem_of_getElem? (i := 23) rfl)) (mr1 _ (List.mem_of_getElem? (i := 5) rfl)) (mr23 _ (List.mem_of_getElem? (i := 0) rfl)))) rfl rfl rfl (by decide +kernel) ⟨Nat.le_of_ble_eq_true rfl, Nat.le_of_ble_eq_true rfl⟩) (Wd.preV zo hA hZ hw hK hs.1 hs.2.1 rfl) rfl rfl hl.1 rfl (lv_room (Nat.le_of_ble_eq_true rfl)) dX10_period_7 ⟨Nat.le_of_ble_eq_true rfl, Nat.le_of_ble_eq_true rfl⟩) (fun x_2 L1 f1 H locs lx_2 ux_2 ex_2 hw => ?_)
  obtain ⟨rfl, rfl, ex_2⟩ := ex_2
  refine q_if_eq (tgt := 24) hx hb dX10_period_10 (by decide) ⟨lx_2, ux_2⟩ (fun c10 => ?_) (fun c10 => ?_)
  · refine q_iconst hx hb dX10_period_24 ?_
    exact q_ret_i hx hb hr hlocks hK hAe hw ⟨by decide, by decide⟩ (Nat.le_of_ble_eq_true rfl) (Nat.le_of_ble_eq_true rfl) dX10_period_25 (by first | exact ⟨rfl, hs, hE, Or.inr ⟨by omega, by omega, by rw [h18, h15]⟩⟩ | exact ⟨rfl, hs, hE, Or.inl ⟨by omega, by omega⟩⟩ | fail "none")
  · refine lv_aload_n hx hb dX10_period_13 rfl (lv_at hl 0 rfl) ?_
    refine lv_iload_n hx hb dX10_period_14 rfl (lv_at hl 1 rfl) ?_
    refine q_call_l hA hK hw (va_runV (As := [.int (iI x1)]) (rest := []) ⟨hx, hb, hml, hown, hts⟩ (c_X10_periodFor_f zo l D cy L0 f_1 a0 x1 lx1 ux1 ad hs (by omega) (by omega) (by rw [Q4a]; exact mo x1 (by omega) (by omega)) _) (cwV 1 hts (gT (inV (mr41 _ (List.mem_of_getElem? (i := 17) rfl)) (mr41 _ (List.mem_of_getElem? (i := 18) rfl)) (mr41 _ (List.mem_of_getElem? (i := 19) rfl)) (mr1 _ (List.mem_of_getElem? (i := 5) rfl)) (mr41 _ (List.mem_of_getElem? (i := 20) rfl)))) rfl rfl rfl (by decide +kernel) ⟨Nat.le_of_ble_eq_true rfl, Nat.le_of_ble_eq_true rfl⟩) (Wd.preV zo hA hZ hw hK hs.1 hs.2.1 rfl) rfl rfl hl.1 rfl (lv_room (Nat.le_of_ble_eq_true rfl)) dX10_period_15 ⟨Nat.le_of_ble_eq_true rfl, Nat.le_of_ble_eq_true rfl⟩) (fun x_3 L1 f1 H locs lx_3 ux_3 ex_3 hw => ?_)
    obtain ⟨rfl, rfl, ex_3⟩ := ex_3
    have h15 : x_3 = cyK (aI f0 (ad 4) (44 * x1 + 3)) (aI f0 (ad 4) (44 * x1 + 4)) := ex_3.trans (by rw [Q4a])
    have c15b := cy_b (k := aI f0 (ad 4) (44 * x1 + 3)) (n := aI f0 (ad 4) (44 * x1 + 4)) (mo x1 (by omega) (by omega)).1 (mo x1 (by omega) (by omega)).2.2.1
    refine q_call_i hA hK hw (va_runS (As := [.long (lJ x_3)]) (rest := []) ⟨hx, hb, hml, hown, hts⟩ (c_X10_asInt_f zo l D cy L0 f_1 x_3 lx_3 ux_3 (by omega) _) (va_cwS 1 hts (gT (inS (mr42 _ (List.mem_of_getElem? (i := 4) rfl)) (mr42 _ (List.mem_of_getElem? (i := 5) rfl)) (mr1 _ (List.mem_of_getElem? (i := 5) rfl)) (mr42 _ (List.mem_of_getElem? (i := 6) rfl)))) rfl rfl rfl (by decide +kernel) ⟨Nat.le_of_ble_eq_true rfl, Nat.le_of_ble_eq_true rfl⟩) (Wd.preS zo hA hZ hw hK) rfl rfl hl.1 rfl (lv_room (Nat.le_of_ble_eq_true rfl)) dX10_period_18 ⟨Nat.le_of_ble_eq_true rfl, Nat.le_of_ble_eq_true rfl⟩) (fun x_4 L1 f1 H locs lx_4 ux_4 ex_4 hw => ?_)
    obtain ⟨rfl, rfl, ex_4⟩ := ex_4
    have h18 := ex_4
    refine lv_goto (tgt := 25) hx hb dX10_period_21 (by decide) ?_
    exact q_ret_i hx hb hr hlocks hK hAe hw ⟨lx_4, ux_4⟩ (Nat.le_of_ble_eq_true rfl) (Nat.le_of_ble_eq_true rfl) dX10_period_25 (by first | exact ⟨rfl, hs, hE, Or.inr ⟨by omega, by omega, by rw [h18, h15]⟩⟩ | exact ⟨rfl, hs, hE, Or.inl ⟨by omega, by omega⟩⟩ | fail "none")
set_option maxHeartbeats 4000000 in
set_option maxRecDepth 100000 in
theorem c_X10_periodOf_f {Z : Zt} (zo : Zok Z) (l : Launch) (D : va_G) (cy : Cy) (L0 : List Nat) (f0 : Nat → va_E) (a0 : Nat) (x1 : Int) (lx1 : -2147483648 ≤ x1) (ux1 : x1 ≤ 2147483647) (x2 : Int) (lx2 : -2147483648 ≤ x2) (ux2 : x2 ≤ 2147483647) (ad : Nat → Nat) (hs : MS cy L0 f0 a0 ad) (hv : MV f0 a0 ad) (mo : MOk f0 a0 ad) : Ci Z l yX10_periodOf (Cond.code yX10_periodOf cX10_periodOf 7 (some .int) :: TB) ({ frames := 2, cells := 0, slots := 0, locals := 52 } : Room) 0 0 D (tq cy) [.ref a0, .int (iI x1), .int (iI x2)] L0 f0 (fun (r : Int) (L1 : List Nat) (f1 : Nat → va_E) => L0 = L1 ∧ MS cy L0 f1 a0 ad ∧ Kp a0 ad [] [10] f0 f1 ∧ ((r = -1 ∧ ((x1 < 0 ∨ fI f0 a0 5 ≤ x1) ∨ (x2 < 0 ∨ fI f0 a0 5 ≤ x2))) ∨ (0 ≤ x1 ∧ x1 < fI f0 a0 5 ∧ 0 ≤ x2 ∧ x2 < fI f0 a0 5 ∧ r = asF (lcF (cyK (aI f0 (ad 4) (44 * x1 + 3)) (aI f0 (ad 4) (44 * x1 + 4))) (cyK (aI f0 (ad 4) (44 * x2 + 3)) (aI f0 (ad 4) (44 * x2 + 4))))))) := by
  refine Ci.enter (cc := cX10_periodOf) (n := 7) rfl (plainFor_of_name (by decide)) (Nat.le_of_ble_eq_true rfl) ?_
  intro p e s m below meth c ls A hx hb hr hts hown hlocks hnm hml hK hA hAe hw hZ hl
  have hown : s.vm.findClass RX10 = some m.cls := hown
  have hl : lv_has ls 7 [(0, .ref a0), (1, .int (iI x1)), (2, .int (iI x2))] := hl
  have hN : ZN s := (zo.2.2.2.2 _ _ _ hZ).2
  have hE : Kp a0 ad [] [10] f0 f0 := Kp.refl _ _ _ _ _
  have m5 := hv.1
  have m6 := hv.2.1
  refine lv_aload_n hx hb dX10_periodOf_0 rfl (lv_at hl 0 rfl) ?_
  refine q_iconst hx hb dX10_periodOf_1 ?_
  refine q_puti (ci := 8) (C := RX10) (T := TX10) (N := 26) hx hb hts (fun w h => List.mem_cons_of_mem _ (mfX100 w h)) hown hK hw hs.1 hs.2.1 rfl 10 (by decide) (hts _ (List.mem_cons_of_mem _ (mr4 _ (List.mem_of_getElem? (i := 19) rfl)))) (fun _ h => h) tyX10 tyX10_ok nmX10 rfl (ty := .int) (by decide +kernel) rfl rfl dX10_periodOf_2 (fun H locs hw => ?_)
  obtain ⟨f_1, ef_1⟩ : ∃ g : Nat → va_E, g = pU f0 a0 10 (.int (iI 0)) := ⟨_, rfl⟩
  have v10_f_1 : fI f_1 a0 10 = 0 := by rw [ef_1]; exact fI_pU_self hs.2.1 rfl ⟨by decide, by decide⟩
  have t5_f_1 : fI f_1 a0 5 = fI f0 a0 5 := by rw [ef_1]; exact fI_pU (Or.inr (by decide))
  have hE := hE.trans (show Kp a0 ad [] [10] f0 f_1 by rw [ef_1]; exact Kp_pU hs (by decide))
  have hs_ := hs
  have hs : MS cy L0 f_1 a0 ad := by rw [ef_1]; exact MS_pU hs rfl
  rw [← ef_1] at hw
  have Q4a : aI f_1 (ad 4) = aI f0 (ad 4) := funext fun x => by rw [ef_1]; exact hs_.aI_pU _ x
  refine lv_aload_n hx hb dX10_periodOf_5 rfl (lv_at hl 0 rfl) ?_
  refine lv_iload_n hx hb dX10_periodOf_6 rfl (lv_at hl 1 rfl) ?_
  refine q_call_i hA hK hw (va_runV (As := [.int (iI x1)]) (rest := []) ⟨hx, hb, hml, hown, hts⟩ (c_X10_isBooking zo l D cy L0 f_1 a0 x1 lx1 ux1 ad hs (by omega) _) (cwV 1 hts (gT (inV (mr22 _ (List.mem_of_getElem? (i := 21) rfl)) (mr22 _ (List.mem_of_getElem? (i := 22) rfl)) (mr22 _ (List.mem_of_getElem? (i := 23) rfl)) (mr1 _ (List.mem_of_getElem? (i := 5) rfl)) (mr23 _ (List.mem_of_getElem? (i := 0) rfl)))) rfl rfl rfl (by decide +kernel) ⟨Nat.le_of_ble_eq_true rfl, Nat.le_of_ble_eq_true rfl⟩) (Wd.preV zo hA hZ hw hK hs.1 hs.2.1 rfl) rfl rfl hl.1 rfl (lv_room (Nat.le_of_ble_eq_true rfl)) dX10_periodOf_7 ⟨Nat.le_of_ble_eq_true rfl, Nat.le_of_ble_eq_true rfl⟩) (fun x_2 L1 f1 H locs lx_2 ux_2 ex_2 hw => ?_)
  obtain ⟨rfl, rfl, ex_2⟩ := ex_2
  refine q_if_eq (tgt := 21) hx hb dX10_periodOf_10 (by decide) ⟨lx_2, ux_2⟩ (fun c10 => ?_) (fun c10 => ?_)
  · refine q_iconst hx hb dX10_periodOf_21 ?_
    exact q_ret_i hx hb hr hlocks hK hAe hw ⟨by decide, by decide⟩ (Nat.le_of_ble_eq_true rfl) (Nat.le_of_ble_eq_true rfl) dX10_periodOf_22 (by exact ⟨rfl, hs, hE, Or.inl ⟨by omega, by omega⟩⟩)
  · refine lv_aload_n hx hb dX10_periodOf_13 rfl (lv_at hl 0 rfl) ?_
    refine lv_iload_n hx hb dX10_periodOf_14 rfl (lv_at hl 2 rfl) ?_
    refine q_call_i hA hK hw (va_runV (As := [.int (iI x2)]) (rest := []) ⟨hx, hb, hml, hown, hts⟩ (c_X10_isBooking zo l D cy L0 f_1 a0 x2 lx2 ux2 ad hs (by omega) _) (cwV 1 hts (gT (inV (mr22 _ (List.mem_of_getElem? (i := 21) rfl)) (mr22 _ (List.mem_of_getElem? (i := 22) rfl)) (mr22 _ (List.mem_of_getElem? (i := 23) rfl)) (mr1 _ (List.mem_of_getElem? (i := 5) rfl)) (mr23 _ (List.mem_of_getElem? (i := 0) rfl)))) rfl rfl rfl (by decide +kernel) ⟨Nat.le_of_ble_eq_true rfl, Nat.le_of_ble_eq_true rfl⟩) (Wd.preV zo hA hZ hw hK hs.1 hs.2.1 rfl) rfl rfl hl.1 rfl (lv_room (Nat.le_of_ble_eq_true rfl)) dX10_periodOf_15 ⟨Nat.le_of_ble_eq_true rfl, Nat.le_of_ble_eq_true rfl⟩) (fun x_3 L1 f1 H locs lx_3 ux_3 ex_3 hw => ?_)
    obtain ⟨rfl, rfl, ex_3⟩ := ex_3
    refine q_if_ne (tgt := 23) hx hb dX10_periodOf_18 (by decide) ⟨lx_3, ux_3⟩ (fun c18 => ?_) (fun c18 => ?_)
    · refine lv_aload_n hx hb dX10_periodOf_23 rfl (lv_at hl 0 rfl) ?_
      refine lv_iload_n hx hb dX10_periodOf_24 rfl (lv_at hl 1 rfl) ?_
      refine q_call_l hA hK hw (va_runV (As := [.int (iI x1)]) (rest := []) ⟨hx, hb, hml, hown, hts⟩ (c_X10_periodFor_f zo l D cy L0 f_1 a0 x1 lx1 ux1 ad hs (by omega) (by omega) (by rw [Q4a]; exact mo x1 (by omega) (by omega)) _) (cwV 1 hts (gT (inV (mr41 _ (List.mem_of_getElem? (i := 17) rfl)) (mr41 _ (List.mem_of_getElem? (i := 18) rfl)) (mr41 _ (List.mem_of_getElem? (i := 19) rfl)) (mr1 _ (List.mem_of_getElem? (i := 5) rfl)) (mr41 _ (List.mem_of_getElem? (i := 20) rfl)))) rfl rfl rfl (by decide +kernel) ⟨Nat.le_of_ble_eq_true rfl, Nat.le_of_ble_eq_true rfl⟩) (Wd.preV zo hA hZ hw hK hs.1 hs.2.1 rfl) rfl rfl hl.1 rfl (lv_room (Nat.le_of_ble_eq_true rfl)) dX10_periodOf_25 ⟨Nat.le_of_ble_eq_true rfl, Nat.le_of_ble_eq_true rfl⟩) (fun x_4 L1 f1 H locs lx_4 ux_4 ex_4 hw => ?_)
      obtain ⟨rfl, rfl, ex_4⟩ := ex_4
      have h25 : x_4 = cyK (aI f0 (ad 4) (44 * x1 + 3)) (aI f0 (ad 4) (44 * x1 + 4)) := ex_4.trans (by rw [Q4a])
      have c25b := cy_b (k := aI f0 (ad 4) (44 * x1 + 3)) (n := aI f0 (ad 4) (44 * x1 + 4)) (mo x1 (by omega) (by omega)).1 (mo x1 (by omega) (by omega)).2.2.1
      refine lv_lstore_n (lv' := [(3, .long (lJ x_4)), (0, .ref a0), (1, .int (iI x1)), (2, .int (iI x2))]) hx hb dX10_periodOf_28 rfl hl (by decide) rfl (fun ls hl => ?_)
      refine lv_aload_n hx hb dX10_periodOf_29 rfl (lv_at hl 1 rfl) ?_
      refine lv_iload_n hx hb dX10_periodOf_30 rfl (lv_at hl 3 rfl) ?_
      refine q_call_l hA hK hw (va_runV (As := [.int (iI x2)]) (rest := []) ⟨hx, hb, hml, hown, hts⟩ (c_X10_periodFor_f zo l D cy L0 f_1 a0 x2 lx2 ux2 ad hs (by omega) (by omega) (by rw [Q4a]; exact mo x2 (by omega) (by omega)) _) (cwV 1 hts (gT (inV (mr41 _ (List.mem_of_getElem? (i := 17) rfl)) (mr41 _ (List.mem_of_getElem? (i := 18) rfl)) (mr41 _ (List.mem_of_getElem? (i := 19) rfl)) (mr1 _ (List.mem_of_getElem? (i := 5) rfl)) (mr41 _ (List.mem_of_getElem? (i := 20) rfl)))) rfl rfl rfl (by decide +kernel) ⟨Nat.le_of_ble_eq_true rfl, Nat.le_of_ble_eq_true rfl⟩) (Wd.preV zo hA hZ hw hK hs.1 hs.2.1 rfl) rfl rfl hl.1 rfl (lv_room (Nat.le_of_ble_eq_true rfl)) dX10_periodOf_31 ⟨Nat.le_of_ble_eq_true rfl, Nat.le_of_ble_eq_true rfl⟩) (fun x_5 L1 f1 H locs lx_5 ux_5 ex_5 hw => ?_)
      obtain ⟨rfl, rfl, ex_5⟩ := ex_5
      have h31 : x_5 = cyK (aI f0 (ad 4) (44 * x2 + 3)) (aI f0 (ad 4) (44 * x2 + 4)) := ex_5.trans (by rw [Q4a])
      have c31b := cy_b (k := aI f0 (ad 4) (44 * x2 + 3)) (n := aI f0 (ad 4) (44 * x2 + 4)) (mo x2 (by omega) (by omega)).1 (mo x2 (by omega) (by omega)).2.2.1
      refine lv_lstore (lv' := [(5, .long (lJ x_5)), (3, .long (lJ x_4)), (0, .ref a0), (1, .int (iI x1)), (2, .int (iI x2))]) hx hb dX10_periodOf_34 hl (by decide) rfl (fun ls hl => ?_)
      refine lv_lload_n hx hb dX10_periodOf_36 rfl (lv_at hl 1 rfl) ?_
      refine q_lconst0 hx hb dX10_periodOf_37 ?_
      refine q_lcmp hx hb dX10_periodOf_38 ⟨lx_4, ux_4⟩ ⟨by decide, by decide⟩ (fun x_6 lx_6 ux_6 ex_6 => ?_)
      refine q_if_eq (tgt := 49) hx hb dX10_periodOf_39 (by decide) ⟨lx_6, ux_6⟩ (fun c39 => ?_) (fun c39 => ?_)
      · refine q_iconst hx hb dX10_periodOf_49 ?_
        refine lv_goto (tgt := 67) hx hb dX10_periodOf_50 (by decide) ?_
        exact q_ret_i hx hb hr hlocks hK hAe hw ⟨by decide, by decide⟩ (Nat.le_of_ble_eq_true rfl) (Nat.le_of_ble_eq_true rfl) dX10_periodOf_67 (by first | exact ⟨rfl, hs, hE, Or.inr ⟨by omega, by omega, by omega, by omega, by rw [h64, ← h25, ← h31]; exact congrArg asF (lc_v (by omega) (by omega) h57 h60 h63)⟩⟩ | exact ⟨rfl, hs, hE, Or.inr ⟨by omega, by omega, by omega, by omega, by rw [← lc_z (a := cyK (aI f0 (ad 4) (44 * x1 + 3)) (aI f0 (ad 4) (44 * x1 + 4))) (b := cyK (aI f0 (ad 4) (44 * x2 + 3)) (aI f0 (ad 4) (44 * x2 + 4))) (by omega) (by omega)]; exact as_0⟩⟩ | fail "none")
      · refine lv_lload hx hb dX10_periodOf_42 (lv_at hl 0 rfl) ?_
        refine q_lconst0 hx hb dX10_periodOf_44 ?_
        refine q_lcmp hx hb dX10_periodOf_45 ⟨lx_5, ux_5⟩ ⟨by decide, by decide⟩ (fun x_7 lx_7 ux_7 ex_7 => ?_)
        refine q_if_ne (tgt := 53) hx hb dX10_periodOf_46 (by decide) ⟨lx_7, ux_7⟩ (fun c46 => ?_) (fun c46 => ?_)
        · refine lv_lload_n hx hb dX10_periodOf_53 rfl (lv_at hl 1 rfl) ?_
          refine lv_lload_n hx hb dX10_periodOf_54 rfl (lv_at hl 1 rfl) ?_
          refine lv_lload hx hb dX10_periodOf_55 (lv_at hl 0 rfl) ?_
          refine q_call_l hA hK hw (va_runS (As := [.long (lJ x_4), .long (lJ x_5)]) (rest := [.long (lJ x_4)]) ⟨hx, hb, hml, hown, hts⟩ (c_X10_gcd_f zo l D cy L0 f_1 x_4 lx_4 ux_4 x_5 lx_5 ux_5 (by omega) (by omega) _) (va_cwS 2 hts (gT (inS (mr42 _ (List.mem_of_getElem? (i := 1) rfl)) (mr42 _ (List.mem_of_getElem? (i := 2) rfl)) (mr1 _ (List.mem_of_getElem? (i := 5) rfl)) (mr42 _ (List.mem_of_getElem? (i := 3) rfl)))) rfl rfl rfl (by decide +kernel) ⟨Nat.le_of_ble_eq_true rfl, Nat.le_of_ble_eq_true rfl⟩) (Wd.preS zo hA hZ hw hK) rfl rfl hl.1 rfl (lv_room (Nat.le_of_ble_eq_true rfl)) dX10_periodOf_57 ⟨Nat.le_of_ble_eq_true rfl, Nat.le_of_ble_eq_true rfl⟩) (fun x_8 L1 f1 H locs lx_8 ux_8 ex_8 hw => ?_)
          obtain ⟨rfl, rfl, ex_8⟩ := ex_8
          have h57 := ex_8
          have g57 : 0 < x_8 := by rw [h57]; exact gc_pos (by omega)
          first | refine q_ldiv hx hb dX10_periodOf_60 ⟨lx_4, ux_4⟩ ⟨lx_8, ux_8⟩ (by omega) (by omega) (fun j_9 lj_9 uj_9 ej_9 => ?_) | refine q_ldivw hx hb dX10_periodOf_60 ⟨lx_4, ux_4⟩ ⟨lx_8, ux_8⟩ (by omega) (fun j_9 lj_9 uj_9 ej_9 => ?_)
          have h60 := ej_9.1
          refine lv_lload hx hb dX10_periodOf_61 (lv_at hl 0 rfl) ?_
          have hm := lc_rg (a := cyK (aI f0 (ad 4) (44 * x1 + 3)) (aI f0 (ad 4) (44 * x1 + 4))) (b := x_5) (z := j_9) (by omega) (by omega) (by omega) (by omega) (by omega)
          first | refine q_lmul hx hb dX10_periodOf_63 ⟨by omega, by omega⟩ (fun j_10 lj_10 uj_10 ej_10 => ?_) | refine q_lmulw hx hb dX10_periodOf_63 (fun j_10 lj_10 uj_10 ej_10 => ?_)
          have h63 := ej_10
          refine q_call_i hA hK hw (va_runS (As := [.long (lJ j_10)]) (rest := []) ⟨hx, hb, hml, hown, hts⟩ (c_X10_asInt_f zo l D cy L0 f_1 j_10 lj_10 uj_10 (by omega) _) (va_cwS 1 hts (gT (inS (mr42 _ (List.mem_of_getElem? (i := 4) rfl)) (mr42 _ (List.mem_of_getElem? (i := 5) rfl)) (mr1 _ (List.mem_of_getElem? (i := 5) rfl)) (mr42 _ (List.mem_of_getElem? (i := 6) rfl)))) rfl rfl rfl (by decide +kernel) ⟨Nat.le_of_ble_eq_true rfl, Nat.le_of_ble_eq_true rfl⟩) (Wd.preS zo hA hZ hw hK) rfl rfl hl.1 rfl (lv_room (Nat.le_of_ble_eq_true rfl)) dX10_periodOf_64 ⟨Nat.le_of_ble_eq_true rfl, Nat.le_of_ble_eq_true rfl⟩) (fun x_11 L1 f1 H locs lx_11 ux_11 ex_11 hw => ?_)
          obtain ⟨rfl, rfl, ex_11⟩ := ex_11
          have h64 := ex_11
          exact q_ret_i hx hb hr hlocks hK hAe hw ⟨lx_11, ux_11⟩ (Nat.le_of_ble_eq_true rfl) (Nat.le_of_ble_eq_true rfl) dX10_periodOf_67 (by first | exact ⟨rfl, hs, hE, Or.inr ⟨by omega, by omega, by omega, by omega, by rw [h64, ← h25, ← h31]; exact congrArg asF (lc_v (by omega) (by omega) h57 h60 h63)⟩⟩ | exact ⟨rfl, hs, hE, Or.inr ⟨by omega, by omega, by omega, by omega, by rw [← lc_z (a := cyK (aI f0 (ad 4) (44 * x1 + 3)) (aI f0 (ad 4) (44 * x1 + 4))) (b := cyK (aI f0 (ad 4) (44 * x2 + 3)) (aI f0 (ad 4) (44 * x2 + 4))) (by omega) (by omega)]; exact as_0⟩⟩ | fail "none")
        · refine q_iconst hx hb dX10_periodOf_49 ?_
          refine lv_goto (tgt := 67) hx hb dX10_periodOf_50 (by decide) ?_
          exact q_ret_i hx hb hr hlocks hK hAe hw ⟨by decide, by decide⟩ (Nat.le_of_ble_eq_true rfl) (Nat.le_of_ble_eq_true rfl) dX10_periodOf_67 (by first | exact ⟨rfl, hs, hE, Or.inr ⟨by omega, by omega, by omega, by omega, by rw [h64, ← h25, ← h31]; exact congrArg asF (lc_v (by omega) (by omega) h57 h60 h63)⟩⟩ | exact ⟨rfl, hs, hE, Or.inr ⟨by omega, by omega, by omega, by omega, by rw [← lc_z (a := cyK (aI f0 (ad 4) (44 * x1 + 3)) (aI f0 (ad 4) (44 * x1 + 4))) (b := cyK (aI f0 (ad 4) (44 * x2 + 3)) (aI f0 (ad 4) (44 * x2 + 4))) (by omega) (by omega)]; exact as_0⟩⟩ | fail "none")
    · refine q_iconst hx hb dX10_periodOf_21 ?_
      exact q_ret_i hx hb hr hlocks hK hAe hw ⟨by decide, by decide⟩ (Nat.le_of_ble_eq_true rfl) (Nat.le_of_ble_eq_true rfl) dX10_periodOf_22 (by exact ⟨rfl, hs, hE, Or.inl ⟨by omega, by omega⟩⟩)
