/-! ===== a long field ===== -/
theorem MS_pL {cy : Cy} {L : List Nat} {f : Nat → va_E} {a k : Nat} {ad : Nat → Nat} {v : Int64} (h : MS cy L f a ad) (hk : (sg 8)[k]? = some 1) : MS cy L (pU f a k (.long v)) a ad := by
  refine ⟨h.1, Ob_pU h.2.1 hk rfl h.2.1, fun j hj => ?_, h.2.2.2⟩
  obtain ⟨h1, h2, h3⟩ := h.2.2.1 j hj
  refine ⟨?_, h2, ArI_pU h3⟩
  by_cases e : j = k
  · subst e
    obtain ⟨fs, w, g1, g2, g3, g4⟩ := h.2.1.val hk
    obtain ⟨x, rfl⟩ := tyv_long g4
    unfold fR at h1
    rw [fV_eq g1, g3] at h1
    cases h1
  · rw [fR_pU (Or.inr e)]; exact h1
section QLF
variable {p : Program} {l : Launch} {e : Env} {R : Room} {s : State} {m : MethodId} {args : Array Value} {below : List Frame} {meth : Method} {c : Code} {H : Heap} {locs : List Loc} {cells slots : Nat} {Q : State → Prop}
variable {cc : ByteArray} {pc : Nat} {ls : Array Slot} {rest : List Value} {D : va_G} {A : Nat → Prop} {a : Nat} {tys : List (ClassId × FieldType)} {H0 : Heap} {L : List Nat} {f : Nat → va_E}
theorem q_getl (hx : p.tables.exec = Jvm.exec) (hb : c.code = cc) {own ref C : String} {T : u_T} {N ci index : Nat} {Ts : List Cond} (hts : ∀ w ∈ Ts, w.before args s = true) (hin : ∀ w ∈ u_ws C T N, w ∈ Ts) (hown : s.vm.findClass own = some m.cls) (hK : va_K D vwCl tys s) (hw : Wd D A H0 L f H locs) (ha : a ∈ L) (ho : Ob f a ci) (hc : vwCl[ci]? = some (C, T, N)) (k : Nat) (hk : k < N) (hlink : (Cond.fieldLink own index ref (T k).2.1 (T k).2.2.1).before args s = true) (hsame : ∀ x, s.fieldFound? (T k).1 (T k).2.1 (T k).2.2.1 = some x → s.fieldFound? ref (T k).2.1 (T k).2.2.1 = some x) (hs : (sg ci)[k]? = some 1) (d : decode cc pc = .ok (.getfield index, 3))
    (kk : ∀ z : Int, -9223372036854775808 ≤ z → z ≤ 9223372036854775807 → True → W p l e R s m args below meth c H locs cells slots Q (F0 m (pc + 3) ls (.long (lJ z) :: rest))) : W p l e R s m args below meth c H locs cells slots Q (F0 m pc ls (.ref a :: rest)) := by
  obtain ⟨fs, v, h1, h2, h3, h4⟩ := ho.val hs
  obtain ⟨x, rfl⟩ := tyv_long h4
  obtain ⟨q0, hq⟩ := hw.at ha
  rw [h1] at hq
  refine va_get hx hb hts hin hown hK hw.1 q0 hq hc k hk hlink hsame h3 d ?_
  exact q_numl fun z z1 z2 z3 => kk z z1 z2 trivial
theorem q_putl (hx : p.tables.exec = Jvm.exec) (hb : c.code = cc) {own ref C : String} {T : u_T} {N ci index : Nat} {Ts : List Cond} (hts : ∀ w ∈ Ts, w.before args s = true) (hin : ∀ w ∈ u_ws C T N, w ∈ Ts) (hown : s.vm.findClass own = some m.cls) (hK : va_K D vwCl tys s) (hw : Wd D A H0 L f H locs) (ha : a ∈ L) (ho : Ob f a ci) (hc : vwCl[ci]? = some (C, T, N)) (k : Nat) (hk : k < N) (hlink : (Cond.fieldLink own index ref (T k).2.1 (T k).2.2.1).before args s = true) (hsame : ∀ x, s.fieldFound? (T k).1 (T k).2.1 (T k).2.2.1 = some x → s.fieldFound? ref (T k).2.1 (T k).2.2.1 = some x) (ty0 : Nat → FieldType) (hty : ∀ k, k < N → parseFieldDescriptor (T k).2.2.1 = some (ty0 k)) (hnm : ∀ a, a < N → ∀ b, b < N → a ≠ b → (T a).2.1 ≠ (T b).2.1) (hfin : (T k).2.2.2 = false) {ty : FieldType} (hd : parseFieldDescriptor (T k).2.2.1 = some ty) (hs : (sg ci)[k]? = some 1) (hi : ty = .long) {x : Int} (d : decode cc pc = .ok (.putfield index, 3))
    (kk : ∀ (H1 : Heap) (locs1 : List Loc), Wd D A H0 L (pU f a k (.long (lJ x))) H1 locs1 → W p l e R s m args below meth c H1 locs1 cells slots Q (F0 m (pc + 3) ls rest)) : W p l e R s m args below meth c H locs cells slots Q (F0 m pc ls (.long (lJ x) :: .ref a :: rest)) := by
  subst hi
  obtain ⟨fs, v, h1, h2, h3, h4⟩ := ho.val hs
  obtain ⟨q0, hq⟩ := hw.at ha
  have hq' := hq
  rw [h1] at hq
  refine va_put hx hb hts hin ty0 hty hnm hown hK hw.1 hw.2.1 hw.2.2 q0 hq hc k hk hlink hsame hfin hd rfl rfl (List.getElem?_eq_some_iff.mp h3).1 d (fun H1 locs1 g1 g2 g3 => ?_)
  rw [hw.put ha hq'] at g1 g2
  exact kk H1 locs1 (by rw [pU_eq h1]; exact ⟨g1, g2, g3⟩)
end QLF
