theorem dL_onAt_0 : decode cL_onAt 0 = .ok (.aload 6, 2) := by decide +kernel
theorem dL_onAt_2 : decode cL_onAt 2 = .ok (.iconst 0, 1) := by decide +kernel
theorem dL_onAt_3 : decode cL_onAt 3 = .ok (.aload_n 0, 1) := by decide +kernel
theorem dL_onAt_4 : decode cL_onAt 4 = .ok (.iload_n 1, 1) := by decide +kernel
theorem dL_onAt_5 : decode cL_onAt 5 = .ok (.iload_n 2, 1) := by decide +kernel
theorem dL_onAt_6 : decode cL_onAt 6 = .ok (.iload_n 3, 1) := by decide +kernel
theorem dL_onAt_7 : decode cL_onAt 7 = .ok (.iload 4, 2) := by decide +kernel
theorem dL_onAt_9 : decode cL_onAt 9 = .ok (.iload 5, 2) := by decide +kernel
theorem dL_onAt_11 : decode cL_onAt 11 = .ok (.invokevirtual 7, 3) := by decide +kernel
theorem dL_onAt_14 : decode cL_onAt 14 = .ok (.i2l, 1) := by decide +kernel
theorem dL_onAt_15 : decode cL_onAt 15 = .ok (.lastore, 1) := by decide +kernel
theorem dL_onAt_16 : decode cL_onAt 16 = .ok (.goto 7, 3) := by decide +kernel
theorem dL_onAt_19 : decode cL_onAt 19 = .ok (.astore 7, 2) := by decide +kernel
theorem dL_onAt_21 : decode cL_onAt 21 = .ok (.iconst 1, 1) := by decide +kernel
theorem dL_onAt_22 : decode cL_onAt 22 = .ok (.ireturn, 1) := by decide +kernel
theorem dL_onAt_23 : decode cL_onAt 23 = .ok (.iconst 0, 1) := by decide +kernel
theorem dL_onAt_24 : decode cL_onAt 24 = .ok (.ireturn, 1) := by decide +kernel
/-! ===== the law's onAt ===== -/
abbrev tl (cy : Cy) (cL : ClassId) : List (ClassId × FieldType) := [(cy.1, .char), (cy.2.1, .int), (cy.2.2.1, .boolean), (cy.2.2.2.1, .object "BookIndex$Booking"), (cy.2.2.2.2, .object "BookIndex$Shelf"), (cL, .long)]
def ArL (f : Nat → va_E) (a : Nat) (cL : ClassId) : Prop := ∃ g : Nat → Int64, f a = .inl (cL, 1, .inr (.inl g))
theorem vx9_cast : Cond.castable nse nse ∈ atN := by decide +kernel
set_option maxHeartbeats 4000000 in
theorem Ci.enterW {Z : Zt} {l : Launch} {y : MethodName} {ws ws' : List Cond} {rm : Room} {mc ms n : Nat} {D : va_G} {tys : List (ClassId × FieldType)} {av : List Value} {L : List Nat} {f : Nat → va_E} {Post : Int → List Nat → (Nat → va_E) → Prop} {cc : ByteArray} {rt : FieldType} {hh : List (Nat × Nat × Nat × Nat)} (hw : ws = Cond.codeWith y cc n (some rt) hh :: ws') (hy : plainName y.cls = true) (hav : (lg_sl av).length ≤ n)
    (body : ∀ (p : Program) (e : Env) (s : State) (m : MethodId) (below : List Frame) (meth : Method) (c : Code) (ls : Array Slot) (A : Nat → Prop), p.tables.exec = Jvm.exec → c.code = cc → meth.sig.returnType = some rt → (∀ w ∈ ws, w.before av.toArray s = true) → s.vm.findClass y.cls = some m.cls → meth.locks = false → meth.name = y.name → c.maxLocals = n → c.exceptionTable.toList = tableOf hh → va_K D vwCl tys s → (∀ q : Nat, s.heap.size ≤ q → A q) → A = va_A (va_pl L f) s.heap.size → Wd D A s.heap L f s.heap [] → Z A s s.heap → lv_has ls n (lv_args 0 av) →
      W p l e rm s m av.toArray below meth c s.heap [] 0 0 (MQ below (Qi D tys L f s.heap.size Post) av.toArray s mc ms A) (F0 m 0 ls [])) : Ci Z l y ws rm mc ms D tys av L f Post := by
  intro sz
  refine va_MetW (cc := cc) (maxL := n) (ret := some rt) hy hw ?_
  intro p e s m args below meth c s₁ B hml hv
  obtain ⟨rfl, hsz, hP, hK, hD0, hZ⟩ := hv
  have hts := atoms_spec (ws := ws) B.pre
  have hown : s.vm.findClass y.cls = some m.cls := findClass_of_methodNamed B.named
  have hin : meth.name = y.name := (name_of_methodNamed B.named B.method).1
  have htab : c.exceptionTable.toList = tableOf hh := vx_table (x := y) B (hts _ (by rw [hw]; exact List.mem_cons_self))
  subst hsz
  have hD := hD0.self (sz := s.heap.size)
  have hl := lv_entry av (n := n) hav
  rw [lg_entry_eq]
  generalize (lg_sl av ++ List.replicate (n - (lg_sl av).length) Slot.unset).toArray = ls at hl ⊢
  exact body p e s m below meth c ls (va_A (va_pl L f) s.heap.size) B.exec B.bytes B.returns hts hown B.notSynchronized hin hml htab hK (fun q h => Or.inr h) rfl ⟨hP, hD, va_S.rf⟩ hZ hl