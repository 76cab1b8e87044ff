/-! ===== texts ===== -/
def Asc (b : List Int32) : Prop := b.length ≤ 100 ∧ ∀ x ∈ b, 0 ≤ x.toInt ∧ x.toInt ≤ 127
theorem Asc.at {b : List Int32} (h : Asc b) (j : Nat) : 0 ≤ (b.getD j 0).toInt ∧ (b.getD j 0).toInt ≤ 127 := by
  by_cases hj : j < b.length
  · have : b.getD j 0 = b[j] := by simp [List.getD, hj]
    rw [this]
    exact h.2 _ (List.getElem_mem hj)
  · have : b.getD j 0 = 0 := by simp [List.getD, Nat.not_lt.mp hj]
    rw [this]
    decide
theorem and255 {x : Int} (h0 : 0 ≤ x) (h1 : x ≤ 127) : (iI x &&& iI 255).toInt = x := by
  obtain ⟨n, rfl⟩ := Int.eq_ofNat_of_zero_le h0
  have hn : n < 128 := by omega
  clear h0 h1
  revert n
  decide +kernel
theorem i2c_small {x : Int} (h0 : 0 ≤ x) (h1 : x ≤ 127) : ((iI x).toUInt32 % 65536).toInt32.toInt = x := by
  obtain ⟨n, rfl⟩ := Int.eq_ofNat_of_zero_le h0
  have hn : n < 128 := by omega
  clear h0 h1
  revert n
  decide +kernel
theorem nar_char {x : Int} (h0 : 0 ≤ x) (h1 : x ≤ 127) : narrow .char (.int (iI x)) = .int (iI x) := by
  obtain ⟨n, rfl⟩ := Int.eq_ofNat_of_zero_le h0
  have hn : n < 128 := by omega
  clear h0 h1
  have : (iI (n : Int)).toUInt32.toUInt16.toUInt32.toInt32 = iI (n : Int) := by revert n; decide +kernel
  exact congrArg Value.int this
theorem shr0 {x : Int} (h0 : 0 ≤ x) (h1 : x ≤ 127) : (iI x >>> (iI 0 &&& 31)).toInt = x := by
  obtain ⟨n, rfl⟩ := Int.eq_ofNat_of_zero_le h0
  have hn : n < 128 := by omega
  clear h0 h1
  revert n
  decide +kernel
section QTX
variable {p : Program} {l : Launch} {e : Env} {R : Room} {s : State} {m : MethodId} {args : Array Value} {below : List Frame} {meth : Method} {c : Code} {H : Heap} {locs : List Loc} {cells slots : Nat} {Q : State → Prop}
variable {cc : ByteArray} {pc mc ms : Nat} {ls : Array Slot} {rest st0 : List Value} {D : va_G} {A : Nat → Prop} {tys : List (ClassId × FieldType)} {H0 : Heap} {L L' : List Nat} {f f' : Nat → va_E}
theorem q_ret_n {Post : Int → List Nat → (Nat → va_E) → Prop} {x : Int} {ty : FieldType} (hx : p.tables.exec = Jvm.exec) (hb : c.code = cc) (hr : meth.sig.returnType = some ty) (hlocks : meth.locks = false) (hK : va_K D vwCl tys s) (hAe : A = va_A (va_pl L f) s.heap.size) (hw : Wd D A s.heap L' f' H locs) (hn : narrow ty (.int (iI x)) = .int (iI x)) (rx : rg x) (h1 : cells ≤ mc) (h2 : slots ≤ ms) (d : decode cc pc = .ok (.ireturn, 1)) (hp : Post x L' f') : W p l e R s m args below meth c H locs cells slots (MQ below (Qi D tys L f s.heap.size Post) args s mc ms A) (F0 m pc ls [.int (iI x)]) := by
  refine W.widen h1 h2 ?_
  refine W.zret hx hb hr hn (fun t ht hW => ⟨⟨iI x, (L', f'), rfl, ⟨x, rfl, rx, hp⟩, Wd.B hK hAe (u := (L', f')) hw ht hW⟩, ?_⟩) hw.2.2.2.2 d
  rw [← hAe]; exact hw.2.2.F ht
theorem Wd.preVT {Z : Zt} (zo : Zok Z) {av : List Value} {b v : Nat} {bs : List Int32} (hA : ∀ q : Nat, s.heap.size ≤ q → A q) (hZ : Z A s s.heap) (hw : Wd D A s.heap L f H locs) (hK : va_K D vwCl tys s) (ht : ∀ (A : Nat → Prop) (U : State) (H : Heap), Z A U H → Tx bs b v A U H) : PreV s H RJ0 b (va_Pc (.ref b :: av) (P0 Z D tys L f H.size)) av := by
  obtain ⟨cell, h1, h2, h3, -⟩ := (ht _ _ _ hZ).1.kept hw.2.2.2.1
  exact ⟨P0.blind zo, ⟨cell, h1, h2, h3⟩, fun U hU hW => hw.pre zo hA hZ hK U hU hW⟩
theorem q_tlen (hx : p.tables.exec = Jvm.exec) (hb : c.code = cc) {t : Nat} {bs : List Int32} (hT : va_T .byte t bs.length (fun j => .int (bs.getD j 0)) A s s.heap) (hS : va_S A s.heap H locs) (hn : Asc bs) (d : decode cc pc = .ok (.arraylength, 1))
    (k : ∀ z : Int, -2147483648 ≤ z → z ≤ 2147483647 → z = (bs.length : Int) → W p l e R s m args below meth c H locs cells slots Q (F0 m (pc + 1) ls (.int (iI z) :: rest))) : W p l e R s m args below meth c H locs cells slots Q (F0 m pc ls (.ref t :: rest)) := by
  have := hn.1
  exact va_tlen hx hb hT hS (v := iI (bs.length : Int)) ((show ∀ n, n < 101 → Int32.ofNat n = iI (n : Int) by decide +kernel) _ (by omega)) d (k _ (by omega) (by omega) rfl)
theorem q_tb (hx : p.tables.exec = Jvm.exec) (hb : c.code = cc) {t : Nat} {bs : List Int32} (hT : va_T .byte t bs.length (fun j => .int (bs.getD j 0)) A s s.heap) (hS : va_S A s.heap H locs) (hn : Asc bs) {i : Int} (ri : rg i) (h0 : 0 ≤ i) (h1 : i < bs.length) (d : decode cc pc = .ok (.baload, 1))
    (k : ∀ z : Int, -2147483648 ≤ z → z ≤ 2147483647 → (z = (bs.getD i.toNat 0).toInt ∧ 0 ≤ z ∧ z ≤ 127) → W p l e R s m args below meth c H locs cells slots Q (F0 m (pc + 1) ls (.int (iI z) :: rest))) : W p l e R s m args below meth c H locs cells slots Q (F0 m pc ls (.int (iI i) :: .ref t :: rest)) := by
  have hb1 := hn.at i.toNat
  refine va_tb hx hb hT hS (iI_in ri h0 h1) (v := .int (bs.getD i.toNat 0)) (by rw [iI_nat ri]) d ?_
  refine q_num (fun z l u e => k z l u ⟨e, by omega, by omega⟩)
end QTX
