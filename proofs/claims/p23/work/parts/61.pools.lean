/-! ===== pools beside each other ===== -/
theorem va_A_pl {L : List Nat} {f : Nat → va_E} {sz q : Nat} (h : va_A (va_pl L f) sz q) : q ∈ L ∨ sz ≤ q := by
  rcases h with ⟨k, e, h⟩ | h
  · have h1 := List.mem_of_getElem? h
    unfold va_pl at h1
    obtain ⟨a, ha, hE⟩ := List.mem_map.mp h1
    cases hE
    exact Or.inl ha
  · exact Or.inr h
theorem pl_mem {L : List Nat} {f : Nat → va_E} {k : Nat} {x : Nat × va_E} (h : (va_pl L f)[k]? = some x) : x.1 ∈ L := by
  have h1 := List.mem_of_getElem? h
  unfold va_pl at h1
  obtain ⟨a, ha, hE⟩ := List.mem_map.mp h1
  cases hE
  exact ha
theorem pl_get {L : List Nat} {f : Nat → va_E} {x : Nat} (h : x ∈ L) : ∃ k : Nat, (va_pl L f)[k]? = some (x, f x) := va_pl_get (X := []) (f := f) h
/-- behind a call on the pool L: what stays -/
def Fr (L : List Nat) (H : Heap) (L1 : List Nat) (H1 : Heap) : Prop := H.size ≤ H1.size ∧ (∀ q : Nat, q < H.size → q ∉ L → H1[q]? = H[q]?) ∧ (∀ x ∈ L1, x ∈ L ∨ H.size ≤ x)
theorem Wd.lt {D : va_G} {A : Nat → Prop} {H0 H : Heap} {L : List Nat} {f : Nat → va_E} {locs : List Loc} (h : Wd D A H0 L f H locs) {x : Nat} (hx : x ∈ L) : x < H.size := by
  obtain ⟨k, hk⟩ := pl_get (f := f) hx
  exact vx_lt h.1 hk
theorem Wd.keep {D : va_G} {A : Nat → Prop} {H0 H H1 : Heap} {Y L L1 : List Nat} {f : Nat → va_E} {locs locs1 : List Loc} (h : Wd D A H0 Y f H locs) (fr : Fr L H L1 H1) (hS : va_S A H0 H1 locs1) (ap : ∀ y ∈ Y, y ∉ L) : Wd D A H0 Y f H1 locs1 ∧ ∀ y ∈ Y, y ∉ L1 :=
  ⟨⟨fun k x hk => (h.1 k x hk).kept (fr.2.1 x.1 (vx_lt h.1 hk) (ap _ (pl_mem hk))), h.2.1, hS⟩, fun y hy h1 => (fr.2.2 y h1).elim (fun z => ap y hy z) (fun z => absurd (h.lt hy) (Nat.not_lt.mpr z))⟩
theorem Wd.left {D : va_G} {A : Nat → Prop} {H0 H : Heap} {X Y : List Nat} {f : Nat → va_E} {locs : List Loc} (h : Wd D A H0 (X ++ Y) f H locs) : Wd D A H0 X f H locs := by
  have e : va_pl (X ++ Y) f = va_pl X f ++ va_pl Y f := by unfold va_pl; exact List.map_append
  obtain ⟨h1, h2, h3⟩ := h
  rw [e] at h1 h2
  have key : ∀ (k : Nat) (x : Nat × va_E), (va_pl X f)[k]? = some x → (va_pl X f ++ va_pl Y f)[k]? = some x := fun k x hk => by
    rw [List.getElem?_append_left (List.getElem?_eq_some_iff.mp hk).1]; exact hk
  exact ⟨fun k x hk => h1 k x (key k x hk), ⟨fun i j x y hi hj => h2.1 i j x y (key i x hi) (key j y hj), fun k x hk => h2.2 k x (key k x hk)⟩, h3⟩
theorem Wd.right {D : va_G} {A : Nat → Prop} {H0 H : Heap} {X Y : List Nat} {f : Nat → va_E} {locs : List Loc} (h : Wd D A H0 (X ++ Y) f H locs) : Wd D A H0 Y f H locs := by
  have e : va_pl (X ++ Y) f = va_pl X f ++ va_pl Y f := by unfold va_pl; exact List.map_append
  obtain ⟨h1, h2, h3⟩ := h
  rw [e] at h1 h2
  have key : ∀ (k : Nat) (x : Nat × va_E), (va_pl Y f)[k]? = some x → (va_pl X f ++ va_pl Y f)[(va_pl X f).length + k]? = some x := fun k x hk => by
    rw [List.getElem?_append_right (Nat.le_add_right _ _), Nat.add_sub_cancel_left]; exact hk
  exact ⟨fun k x hk => h1 _ x (key k x hk), ⟨fun i j x y hi hj hxy => Nat.add_left_cancel (h2.1 _ _ x y (key i x hi) (key j y hj) hxy), fun k x hk => h2.2 _ x (key k x hk)⟩, h3⟩
theorem Wd.apart {D : va_G} {A : Nat → Prop} {H0 H : Heap} {X Y : List Nat} {f : Nat → va_E} {locs : List Loc} (h : Wd D A H0 (X ++ Y) f H locs) : ∀ y ∈ Y, y ∉ X := by
  intro y hy hx
  have e : va_pl (X ++ Y) f = va_pl X f ++ va_pl Y f := by unfold va_pl; exact List.map_append
  have h2 := h.2.1
  rw [e] at h2
  obtain ⟨i, hi⟩ := pl_get (f := f) hx
  obtain ⟨j, hj⟩ := pl_get (f := f) hy
  have hil := (List.getElem?_eq_some_iff.mp hi).1
  have := h2.1 i ((va_pl X f).length + j) (y, f y) (y, f y) (by rw [List.getElem?_append_left hil]; exact hi) (by rw [List.getElem?_append_right (Nat.le_add_right _ _), Nat.add_sub_cancel_left]; exact hj) rfl
  omega
def gl (Y : List Nat) (fy fx : Nat → va_E) : Nat → va_E := fun x => if x ∈ Y then fy x else fx x
theorem gl_in {Y : List Nat} {fy fx : Nat → va_E} {x : Nat} (h : x ∈ Y) : gl Y fy fx x = fy x := if_pos h
theorem gl_out {Y : List Nat} {fy fx : Nat → va_E} {x : Nat} (h : x ∉ Y) : gl Y fy fx x = fx x := if_neg h
theorem Wd.glue {D : va_G} {A : Nat → Prop} {H0 H : Heap} {X Y : List Nat} {fx fy : Nat → va_E} {locs : List Loc} (h : Wd D A H0 X fx H locs) (g : Wd D A H0 Y fy H locs) (ap : ∀ y ∈ Y, y ∉ X) : Wd D A H0 (X ++ Y) (gl Y fy fx) H locs := by
  have e : va_pl (X ++ Y) (gl Y fy fx) = va_pl X fx ++ va_pl Y fy := by
    unfold va_pl
    rw [List.map_append]
    congr 1
    · exact List.map_congr_left fun a ha => by rw [gl_out (fun z => ap a z ha)]
    · exact List.map_congr_left fun a ha => by rw [gl_in ha]
  refine ⟨?_, ?_, h.2.2⟩
  · rw [e]; exact va_P.app h.1 g.1
  · rw [e]; exact va_D.app h.2.1 g.2.1 (fun i j x y hx hy hxy => ap _ (pl_mem hy) (hxy ▸ pl_mem hx))
/-- the same world, another function that says the same of it -/
theorem Wd.fn {D : va_G} {A : Nat → Prop} {H0 H : Heap} {X : List Nat} {f g : Nat → va_E} {locs : List Loc} (h : Wd D A H0 X f H locs) (e : ∀ x ∈ X, g x = f x) : Wd D A H0 X g H locs := by
  have e1 : va_pl X g = va_pl X f := by
    unfold va_pl
    exact List.map_congr_left fun a ha => by rw [e a ha]
  obtain ⟨h1, h2, h3⟩ := h
  exact ⟨by rw [e1]; exact h1, by rw [e1]; exact h2, h3⟩
section QF
variable {p : Program} {l : Launch} {e : Env} {R : Room} {s : State} {m : MethodId} {args : Array Value} {below : List Frame} {meth : Method} {c : Code} {H : Heap} {locs : List Loc} {cells slots : Nat} {Q : State → Prop}
variable {cc : ByteArray} {pc mc ms : Nat} {ls : Array Slot} {rest st0 : List Value} {D : va_G} {A : Nat → Prop} {tys : List (ClassId × FieldType)} {H0 : Heap} {L L' : List Nat} {f f' : Nat → va_E}
theorem Fr.of {u : List Nat × (Nat → va_E)} {H1 : Heap} (hz : H.size ≤ H1.size) (hk : ∀ q : Nat, q < H.size → ¬ va_A (va_pl L f) H.size q → H1[q]? = H[q]?) (g3 : va_D (va_A (va_pl L f) H.size) (va_pl u.1 u.2)) : Fr L H u.1 H1 :=
  ⟨hz, fun q h1 h2 => hk q h1 (fun z => (va_A_pl z).elim h2 (fun z => absurd h1 (Nat.not_lt.mpr z))), fun x hx => by obtain ⟨k, hk⟩ := pl_get (f := u.2) hx; exact va_A_pl (g3.2 k _ hk)⟩
theorem q_cf_i {Post : Int → List Nat → (Nat → va_E) → Prop} {av : Array Value} (hA : ∀ q : Nat, H0.size ≤ q → A q) (hw : Wd D A H0 L f H locs)
    (hr : va_Run p l e R s m args below meth c H locs cells slots mc ms (F0 m pc ls st0) rest (Qi D tys L f H.size Post av) (va_A (va_pl L f) H.size))
    (kk : ∀ (x : Int) (L1 : List Nat) (f1 : Nat → va_E) (H1 : Heap) (locs1 : List Loc), -2147483648 ≤ x → x ≤ 2147483647 → Post x L1 f1 → Wd D A H0 L1 f1 H1 locs1 → Fr L H L1 H1 → W p l e R s m args below meth c H1 locs1 (cells + mc) (slots + ms) Q (F0 m (pc + 3) ls (.int (iI x) :: rest))) : W p l e R s m args below meth c H locs cells slots Q (F0 m pc ls st0) := by
  have hF := hw.free hA
  refine va_calli hr hw.2.2 (fun q _ h => hF q h) hF (fun r u t H1 locs1 ht hvm hp hB hz1 hk1 hS => ?_)
  obtain ⟨x, rfl, rx, hp⟩ := hp
  obtain ⟨g1, g2, g3⟩ := hB
  rw [ht] at g1
  exact kk x u.1 u.2 H1 locs1 rx.1 rx.2 hp ⟨g1, g3.weaken (fun k q _ h => hF q.1 h), hS⟩ (Fr.of hz1 hk1 g3)
theorem q_cf_v {Post : List Nat → (Nat → va_E) → Prop} {av : Array Value} (hA : ∀ q : Nat, H0.size ≤ q → A q) (hw : Wd D A H0 L f H locs)
    (hr : va_Run p l e R s m args below meth c H locs cells slots mc ms (F0 m pc ls st0) rest (Qv D tys L f H.size Post av) (va_A (va_pl L f) H.size))
    (kk : ∀ (L1 : List Nat) (f1 : Nat → va_E) (H1 : Heap) (locs1 : List Loc), Post L1 f1 → Wd D A H0 L1 f1 H1 locs1 → Fr L H L1 H1 → W p l e R s m args below meth c H1 locs1 (cells + mc) (slots + ms) Q (F0 m (pc + 3) ls rest)) : W p l e R s m args below meth c H locs cells slots Q (F0 m pc ls st0) := by
  have hF := hw.free hA
  refine va_callv hr hw.2.2 (fun q _ h => hF q h) hF (fun u t H1 locs1 ht hvm hp hB hz1 hk1 hS => ?_)
  obtain ⟨g1, g2, g3⟩ := hB
  rw [ht] at g1
  exact kk u.1 u.2 H1 locs1 hp ⟨g1, g3.weaken (fun k q _ h => hF q.1 h), hS⟩ (Fr.of hz1 hk1 g3)
end QF
/-! ===== what onAt throws ===== -/
def Xx (D : va_G) (tys : List (ClassId × FieldType)) (L : List Nat) (f : Nat → va_E) (sz : Nat) (PX : List Nat → (Nat → va_E) → Prop) : String → State → State → Prop := vx_X (fun u : List Nat × (Nat → va_E) => PX u.1 u.2) (fun E u t => E = nse ∧ B0 D tys L f sz u t) (va_A (va_pl L f) sz)
def Cx (Z : Zt) (l : Launch) (y : MethodName) (ws : List Cond) (rm : Room) (mc ms : Nat) (D : va_G) (tys : List (ClassId × FieldType)) (av : List Value) (L : List Nat) (f : Nat → va_E) (Post : Int → List Nat → (Nat → va_E) → Prop) (PX : List Nat → (Nat → va_E) → Prop) : Prop := ∀ sz : Nat, vx_Met l y ws rm (va_Pc av (P0 Z D tys L f sz)) (Qi D tys L f sz Post) (Xx D tys L f sz PX) mc ms (va_A (va_pl L f) sz)
def ZE (U : State) : Prop := ∀ w ∈ atN, va_Nw w U
theorem vx9_on : atN.all Cond.onTables = true := by decide +kernel
theorem vx9_ot : (Cond.classLink RX9 132 nse :: Cond.initialized nse :: atN).all vx_ot = true := by decide +kernel
theorem vx9_bad : atN.filter (fun w => !goodWord w) = [Cond.declares (Bundle.initS nrt), Cond.declares (Bundle.initS nex), Cond.declares (Bundle.initS Bundle.tN), Cond.castable nse nse] := by decide +kernel
theorem ZE.same {u U : State} (h : U.vm = u.vm) (z : ZE u) : ZE U := fun w hw => va_Nw.same (List.all_eq_true.mp vx9_on w hw) h.symm (z w hw)
theorem ZE.warm {u U : State} (hW : u.WarmedH U.vm) (z : ZE u) : ZE U := fun w hw => by
  by_cases hg : goodWord w = true
  · exact word_at hW (good_of_word hg) (z w hw)
  · have h1 : w ∈ atN.filter (fun w => !goodWord w) := List.mem_filter.mpr ⟨hw, by simp [hg]⟩
    rw [vx9_bad] at h1
    have h2 := z w hw
    simp only [List.mem_cons, List.not_mem_nil, or_false] at h1
    rcases h1 with rfl | rfl | rfl | rfl
    · exact va_Nw.warmD hW h2
    · exact va_Nw.warmD hW h2
    · exact va_Nw.warmD hW h2
    · exact va_Nw.warmC hW h2
set_option maxHeartbeats 4000000 in
theorem Cx.enter {Z : Zt} {l : Launch} {y : MethodName} {ws ws' : List Cond} {rm : Room} {mc ms n : Nat} {D : va_G} {tys : List (ClassId × FieldType)} {av : List Value} {L : List Nat} {f : Nat → va_E} {Post : Int → List Nat → (Nat → va_E) → Prop} {PX : List Nat → (Nat → va_E) → Prop} {cc : ByteArray} {rt : FieldType} (hw : ws = Cond.code y cc n (some rt) :: ws') (hy : plainName y.cls = true) (hav : (lg_sl av).length ≤ n)
    (body : ∀ (p : Program) (e : Env) (s : State) (m : MethodId) (below : List Frame) (meth : Method) (c : Code) (ls : Array Slot) (A : Nat → Prop), p.tables.exec = Jvm.exec → c.code = cc → meth.sig.returnType = some rt → (∀ w ∈ ws, w.before av.toArray s = true) → s.vm.findClass y.cls = some m.cls → meth.locks = false → meth.name = y.name → c.maxLocals = n → (∀ x ∈ c.exceptionTable.toList, False) → va_K D vwCl tys s → (∀ q : Nat, s.heap.size ≤ q → A q) → A = va_A (va_pl L f) s.heap.size → Wd D A s.heap L f s.heap [] → Z A s s.heap → lv_has ls n (lv_args 0 av) →
      W p l e rm s m av.toArray below meth c s.heap [] 0 0 (vx_MQ below (Qi D tys L f s.heap.size Post) (Xx D tys L f s.heap.size PX) av.toArray s mc ms A) (F0 m 0 ls [])) : Cx Z l y ws rm mc ms D tys av L f Post PX := by
  intro sz
  refine vx_ofW (cc := cc) (maxL := n) (ret := some rt) hy hw ?_
  intro p e s m args below meth c s₁ B hml hext hv
  obtain ⟨rfl, hsz, hP, hK, hD0, hZ⟩ := hv
  have hts := atoms_spec (ws := ws) B.pre
  have hown : s.vm.findClass y.cls = some m.cls := findClass_of_methodNamed B.named
  have hin : meth.name = y.name := (name_of_methodNamed B.named B.method).1
  subst hsz
  have hD := hD0.self (sz := s.heap.size)
  have hl := lv_entry av (n := n) hav
  rw [lg_entry_eq]
  generalize (lg_sl av ++ List.replicate (n - (lg_sl av).length) Slot.unset).toArray = ls at hl ⊢
  exact body p e s m below meth c ls (va_A (va_pl L f) s.heap.size) B.exec B.bytes B.returns hts hown B.notSynchronized hin hml hext hK (fun q h => Or.inr h) rfl ⟨hP, hD, va_S.rf⟩ hZ hl
section QX
variable {p : Program} {l : Launch} {e : Env} {R : Room} {s : State} {m : MethodId} {args : Array Value} {below : List Frame} {meth : Method} {c : Code} {H : Heap} {locs : List Loc} {cells slots : Nat} {Q : State → Prop}
variable {cc : ByteArray} {pc mc ms : Nat} {ls : Array Slot} {rest st0 : List Value} {D : va_G} {A : Nat → Prop} {tys : List (ClassId × FieldType)} {H0 : Heap} {L L' : List Nat} {f f' : Nat → va_E}
theorem q_throw {Z : Zt} (zo : Zok Z) {Post : Int → List Nat → (Nat → va_E) → Prop} {PX : List Nat → (Nat → va_E) → Prop} (hx : p.tables.exec = Jvm.exec) (hb : c.code = cc) (hlt : l.stackTraces = false) (ze : ZE s) (hown : s.vm.findClass RX9 = some m.cls) (hk : (Cond.classLink RX9 132 nse).before args s = true) (hini : (Cond.initialized nse).before args s = true) (hext : ∀ x ∈ c.exceptionTable.toList, False) (hlocks : meth.locks = false) (hK : va_K D vwCl tys s) (hAe : A = va_A (va_pl L f) s.heap.size) (hw : Wd D A s.heap L' f' H locs) (hZ : Z A s s.heap) (hsize : ls.size = c.maxLocals)
    (d0 : decode cc pc = .ok (.new 132, 3)) (d3 : decode cc (pc + 3) = .ok (.dup, 1)) (d4 : decode cc (pc + 4) = .ok (.ldc 134, 2)) (d6 : decode cc (pc + 6) = .ok (.invokespecial 136, 3)) (d9 : decode cc (pc + 9) = .ok (.athrow, 1))
    (hR1 : 5 < R.frames) (hR2 : (rest.map fun v => v.category).sum + 82 ≤ R.locals) (hR3 : cells + 1 ≤ R.cells) (hR4 : slots + 6 ≤ R.slots) (h1 : cells + 1 ≤ mc) (h2 : slots + 6 ≤ ms) (hp : PX L' f') :
    W p l e R s m args below meth c H locs cells slots (vx_MQ below (Qi D tys L f s.heap.size Post) (Xx D tys L f s.heap.size PX) args s mc ms A) (F0 m pc ls rest) := by
  obtain ⟨q, v, hq⟩ := ztx_0 zo
  refine vx_throwN (sa := q) (A := A) hx hb hlt hown hk hini (hq _ _ _ hZ).1 (fun w h => va_Nw.use (List.all_eq_true.mp vx9_on w h) (ze w h)) (fun w h => List.all_eq_true.mp vx9_ot w h) (zo.1.2.2 _ _ _ hZ).2.2.1 (zo.1.2.2 _ _ _ hZ).2.2.2 hw.2.2 hsize d0 d3 d4 d6 d9 (fun x h => (hext x h).elim) hR1 hR2 hR3 hR4 hlocks (fun t hvm hz hq => ?_) (fun z h => hw.2.2.2.2 z h) h1 h2
  refine ⟨(L', f'), hp, ⟨rfl, ?_, va_K.moved hvm hK, ?_⟩, ?_⟩
  · exact fun k x hk => (hw.1 k x hk).kept (hq x.1 (vx_lt hw.1 hk))
  · subst hAe; exact hw.2.1
  · subst hAe; exact ⟨Nat.le_trans hw.2.2.1 hz, fun q h1 h2 => (hq q (Nat.lt_of_lt_of_le h1 hw.2.2.1)).trans (hw.2.2.2.1 q h1 h2)⟩
end QX
